theorem dX5_init_0 : decode cX5_init 0 = .ok (.aload_n 0, 1) := by decide +kernel
theorem dX5_init_1 : decode cX5_init 1 = .ok (.invokespecial 3, 3) := by decide +kernel
theorem dX5_init_4 : decode cX5_init 4 = .ok (.aload_n 0, 1) := by decide +kernel
theorem dX5_init_5 : decode cX5_init 5 = .ok (.new 9, 3) := by decide +kernel
theorem dX5_init_8 : decode cX5_init 8 = .ok (.dup, 1) := by decide +kernel
theorem dX5_init_9 : decode cX5_init 9 = .ok (.invokespecial 11, 3) := by decide +kernel
theorem dX5_init_12 : decode cX5_init 12 = .ok (.putfield 12, 3) := by decide +kernel
theorem dX5_init_15 : decode cX5_init 15 = .ok (.aload_n 0, 1) := by decide +kernel
theorem dX5_init_16 : decode cX5_init 16 = .ok (.new 18, 3) := by decide +kernel
theorem dX5_init_19 : decode cX5_init 19 = .ok (.dup, 1) := by decide +kernel
theorem dX5_init_20 : decode cX5_init 20 = .ok (.invokespecial 20, 3) := by decide +kernel
theorem dX5_init_23 : decode cX5_init 23 = .ok (.putfield 21, 3) := by decide +kernel
theorem dX5_init_26 : decode cX5_init 26 = .ok (.aload_n 0, 1) := by decide +kernel
theorem dX5_init_27 : decode cX5_init 27 = .ok (.bipush 48, 2) := by decide +kernel
theorem dX5_init_29 : decode cX5_init 29 = .ok (.newarray .int, 2) := by decide +kernel
theorem dX5_init_31 : decode cX5_init 31 = .ok (.putfield 25, 3) := by decide +kernel
theorem dX5_init_34 : decode cX5_init 34 = .ok (.aload_n 0, 1) := by decide +kernel
theorem dX5_init_35 : decode cX5_init 35 = .ok (.bipush 48, 2) := by decide +kernel
theorem dX5_init_37 : decode cX5_init 37 = .ok (.newarray .int, 2) := by decide +kernel
theorem dX5_init_39 : decode cX5_init 39 = .ok (.putfield 29, 3) := by decide +kernel
theorem dX5_init_42 : decode cX5_init 42 = .ok (.aload_n 0, 1) := by decide +kernel
theorem dX5_init_43 : decode cX5_init 43 = .ok (.bipush 48, 2) := by decide +kernel
theorem dX5_init_45 : decode cX5_init 45 = .ok (.newarray .boolean, 2) := by decide +kernel
theorem dX5_init_47 : decode cX5_init 47 = .ok (.putfield 32, 3) := by decide +kernel
theorem dX5_init_50 : decode cX5_init 50 = .ok (.aload_n 0, 1) := by decide +kernel
theorem dX5_init_51 : decode cX5_init 51 = .ok (.bipush 48, 2) := by decide +kernel
theorem dX5_init_53 : decode cX5_init 53 = .ok (.newarray .int, 2) := by decide +kernel
theorem dX5_init_55 : decode cX5_init 55 = .ok (.putfield 36, 3) := by decide +kernel
theorem dX5_init_58 : decode cX5_init 58 = .ok (.aload_n 0, 1) := by decide +kernel
theorem dX5_init_59 : decode cX5_init 59 = .ok (.sipush 576, 3) := by decide +kernel
theorem dX5_init_62 : decode cX5_init 62 = .ok (.newarray .int, 2) := by decide +kernel
theorem dX5_init_64 : decode cX5_init 64 = .ok (.putfield 39, 3) := by decide +kernel
theorem dX5_init_67 : decode cX5_init 67 = .ok (.aload_n 0, 1) := by decide +kernel
theorem dX5_init_68 : decode cX5_init 68 = .ok (.bipush 48, 2) := by decide +kernel
theorem dX5_init_70 : decode cX5_init 70 = .ok (.newarray .int, 2) := by decide +kernel
theorem dX5_init_72 : decode cX5_init 72 = .ok (.putfield 42, 3) := by decide +kernel
theorem dX5_init_75 : decode cX5_init 75 = .ok (.aload_n 0, 1) := by decide +kernel
theorem dX5_init_76 : decode cX5_init 76 = .ok (.bipush 48, 2) := by decide +kernel
theorem dX5_init_78 : decode cX5_init 78 = .ok (.newarray .int, 2) := by decide +kernel
theorem dX5_init_80 : decode cX5_init 80 = .ok (.putfield 45, 3) := by decide +kernel
theorem dX5_init_83 : decode cX5_init 83 = .ok (.aload_n 0, 1) := by decide +kernel
theorem dX5_init_84 : decode cX5_init 84 = .ok (.bipush 48, 2) := by decide +kernel
theorem dX5_init_86 : decode cX5_init 86 = .ok (.newarray .int, 2) := by decide +kernel
theorem dX5_init_88 : decode cX5_init 88 = .ok (.putfield 48, 3) := by decide +kernel
theorem dX5_init_91 : decode cX5_init 91 = .ok (.aload_n 0, 1) := by decide +kernel
theorem dX5_init_92 : decode cX5_init 92 = .ok (.bipush 48, 2) := by decide +kernel
theorem dX5_init_94 : decode cX5_init 94 = .ok (.newarray .int, 2) := by decide +kernel
theorem dX5_init_96 : decode cX5_init 96 = .ok (.putfield 51, 3) := by decide +kernel
theorem dX5_init_99 : decode cX5_init 99 = .ok (.aload_n 0, 1) := by decide +kernel
theorem dX5_init_100 : decode cX5_init 100 = .ok (.bipush 48, 2) := by decide +kernel
theorem dX5_init_102 : decode cX5_init 102 = .ok (.newarray .int, 2) := by decide +kernel
theorem dX5_init_104 : decode cX5_init 104 = .ok (.putfield 54, 3) := by decide +kernel
theorem dX5_init_107 : decode cX5_init 107 = .ok (.aload_n 0, 1) := by decide +kernel
theorem dX5_init_108 : decode cX5_init 108 = .ok (.bipush 48, 2) := by decide +kernel
theorem dX5_init_110 : decode cX5_init 110 = .ok (.newarray .int, 2) := by decide +kernel
theorem dX5_init_112 : decode cX5_init 112 = .ok (.putfield 57, 3) := by decide +kernel
theorem dX5_init_115 : decode cX5_init 115 = .ok (.aload_n 0, 1) := by decide +kernel
theorem dX5_init_116 : decode cX5_init 116 = .ok (.bipush 48, 2) := by decide +kernel
theorem dX5_init_118 : decode cX5_init 118 = .ok (.newarray .int, 2) := by decide +kernel
theorem dX5_init_120 : decode cX5_init 120 = .ok (.putfield 60, 3) := by decide +kernel
theorem dX5_init_123 : decode cX5_init 123 = .ok (.aload_n 0, 1) := by decide +kernel
theorem dX5_init_124 : decode cX5_init 124 = .ok (.sipush 1536, 3) := by decide +kernel
theorem dX5_init_127 : decode cX5_init 127 = .ok (.newarray .int, 2) := by decide +kernel
theorem dX5_init_129 : decode cX5_init 129 = .ok (.putfield 63, 3) := by decide +kernel
theorem dX5_init_132 : decode cX5_init 132 = .ok (.return_, 1) := by decide +kernel
theorem dX5_begin_0 : decode cX5_begin 0 = .ok (.aload_n 0, 1) := by decide +kernel
theorem dX5_begin_1 : decode cX5_begin 1 = .ok (.getfield 12, 3) := by decide +kernel
theorem dX5_begin_4 : decode cX5_begin 4 = .ok (.invokevirtual 66, 3) := by decide +kernel
theorem dX5_begin_7 : decode cX5_begin 7 = .ok (.aload_n 0, 1) := by decide +kernel
theorem dX5_begin_8 : decode cX5_begin 8 = .ok (.getfield 21, 3) := by decide +kernel
theorem dX5_begin_11 : decode cX5_begin 11 = .ok (.invokevirtual 69, 3) := by decide +kernel
theorem dX5_begin_14 : decode cX5_begin 14 = .ok (.aload_n 0, 1) := by decide +kernel
theorem dX5_begin_15 : decode cX5_begin 15 = .ok (.iconst 0, 1) := by decide +kernel
theorem dX5_begin_16 : decode cX5_begin 16 = .ok (.putfield 70, 3) := by decide +kernel
theorem dX5_begin_19 : decode cX5_begin 19 = .ok (.aload_n 0, 1) := by decide +kernel
theorem dX5_begin_20 : decode cX5_begin 20 = .ok (.iconst 0, 1) := by decide +kernel
theorem dX5_begin_21 : decode cX5_begin 21 = .ok (.putfield 74, 3) := by decide +kernel
theorem dX5_begin_24 : decode cX5_begin 24 = .ok (.aload_n 0, 1) := by decide +kernel
theorem dX5_begin_25 : decode cX5_begin 25 = .ok (.getfield 63, 3) := by decide +kernel
theorem dX5_begin_28 : decode cX5_begin 28 = .ok (.iconst (-1), 1) := by decide +kernel
theorem dX5_begin_29 : decode cX5_begin 29 = .ok (.invokestatic 77, 3) := by decide +kernel
theorem dX5_begin_32 : decode cX5_begin 32 = .ok (.return_, 1) := by decide +kernel
theorem dX5_inherit_0 : decode cX5_inherit 0 = .ok (.iload_n 1, 1) := by decide +kernel
theorem dX5_inherit_1 : decode cX5_inherit 1 = .ok (.ifCond .le 14, 3) := by decide +kernel
theorem dX5_inherit_4 : decode cX5_inherit 4 = .ok (.iload_n 1, 1) := by decide +kernel
theorem dX5_inherit_5 : decode cX5_inherit 5 = .ok (.aload_n 0, 1) := by decide +kernel
theorem dX5_inherit_6 : decode cX5_inherit 6 = .ok (.getfield 12, 3) := by decide +kernel
theorem dX5_inherit_9 : decode cX5_inherit 9 = .ok (.getfield 83, 3) := by decide +kernel
theorem dX5_inherit_12 : decode cX5_inherit 12 = .ok (.if_icmp .lt 4, 3) := by decide +kernel
theorem dX5_inherit_15 : decode cX5_inherit 15 = .ok (.return_, 1) := by decide +kernel
theorem dX5_inherit_16 : decode cX5_inherit 16 = .ok (.aload_n 0, 1) := by decide +kernel
theorem dX5_inherit_17 : decode cX5_inherit 17 = .ok (.getfield 12, 3) := by decide +kernel
theorem dX5_inherit_20 : decode cX5_inherit 20 = .ok (.getfield 86, 3) := by decide +kernel
theorem dX5_inherit_23 : decode cX5_inherit 23 = .ok (.iload_n 1, 1) := by decide +kernel
theorem dX5_inherit_24 : decode cX5_inherit 24 = .ok (.iaload, 1) := by decide +kernel
theorem dX5_inherit_25 : decode cX5_inherit 25 = .ok (.istore_n 2, 1) := by decide +kernel
theorem dX5_inherit_26 : decode cX5_inherit 26 = .ok (.iload_n 2, 1) := by decide +kernel
theorem dX5_inherit_27 : decode cX5_inherit 27 = .ok (.ifCond .lt 42, 3) := by decide +kernel
theorem dX5_inherit_30 : decode cX5_inherit 30 = .ok (.aload_n 0, 1) := by decide +kernel
theorem dX5_inherit_31 : decode cX5_inherit 31 = .ok (.getfield 12, 3) := by decide +kernel
theorem dX5_inherit_34 : decode cX5_inherit 34 = .ok (.getfield 89, 3) := by decide +kernel
theorem dX5_inherit_37 : decode cX5_inherit 37 = .ok (.iload_n 1, 1) := by decide +kernel
theorem dX5_inherit_38 : decode cX5_inherit 38 = .ok (.aload_n 0, 1) := by decide +kernel
theorem dX5_inherit_39 : decode cX5_inherit 39 = .ok (.getfield 12, 3) := by decide +kernel
theorem dX5_inherit_42 : decode cX5_inherit 42 = .ok (.getfield 89, 3) := by decide +kernel
theorem dX5_inherit_45 : decode cX5_inherit 45 = .ok (.iload_n 2, 1) := by decide +kernel
theorem dX5_inherit_46 : decode cX5_inherit 46 = .ok (.iaload, 1) := by decide +kernel
theorem dX5_inherit_47 : decode cX5_inherit 47 = .ok (.iastore, 1) := by decide +kernel
theorem dX5_inherit_48 : decode cX5_inherit 48 = .ok (.aload_n 0, 1) := by decide +kernel
theorem dX5_inherit_49 : decode cX5_inherit 49 = .ok (.getfield 63, 3) := by decide +kernel
theorem dX5_inherit_52 : decode cX5_inherit 52 = .ok (.iload_n 2, 1) := by decide +kernel
theorem dX5_inherit_53 : decode cX5_inherit 53 = .ok (.bipush 48, 2) := by decide +kernel
theorem dX5_inherit_55 : decode cX5_inherit 55 = .ok (.imul, 1) := by decide +kernel
theorem dX5_inherit_56 : decode cX5_inherit 56 = .ok (.aload_n 0, 1) := by decide +kernel
theorem dX5_inherit_57 : decode cX5_inherit 57 = .ok (.getfield 63, 3) := by decide +kernel
theorem dX5_inherit_60 : decode cX5_inherit 60 = .ok (.iload_n 1, 1) := by decide +kernel
theorem dX5_inherit_61 : decode cX5_inherit 61 = .ok (.bipush 48, 2) := by decide +kernel
theorem dX5_inherit_63 : decode cX5_inherit 63 = .ok (.imul, 1) := by decide +kernel
theorem dX5_inherit_64 : decode cX5_inherit 64 = .ok (.bipush 48, 2) := by decide +kernel
theorem dX5_inherit_66 : decode cX5_inherit 66 = .ok (.invokestatic 92, 3) := by decide +kernel
theorem dX5_inherit_69 : decode cX5_inherit 69 = .ok (.return_, 1) := by decide +kernel
theorem dX5_addBody_0 : decode cX5_addBody 0 = .ok (.aload_n 0, 1) := by decide +kernel
theorem dX5_addBody_1 : decode cX5_addBody 1 = .ok (.getfield 70, 3) := by decide +kernel
theorem dX5_addBody_4 : decode cX5_addBody 4 = .ok (.istore 5, 2) := by decide +kernel
theorem dX5_addBody_6 : decode cX5_addBody 6 = .ok (.iload 5, 2) := by decide +kernel
theorem dX5_addBody_8 : decode cX5_addBody 8 = .ok (.bipush 48, 2) := by decide +kernel
theorem dX5_addBody_10 : decode cX5_addBody 10 = .ok (.if_icmp .ge 14, 3) := by decide +kernel
theorem dX5_addBody_13 : decode cX5_addBody 13 = .ok (.aload_n 0, 1) := by decide +kernel
theorem dX5_addBody_14 : decode cX5_addBody 14 = .ok (.getfield 12, 3) := by decide +kernel
theorem dX5_addBody_17 : decode cX5_addBody 17 = .ok (.iload_n 1, 1) := by decide +kernel
theorem dX5_addBody_18 : decode cX5_addBody 18 = .ok (.invokevirtual 98, 3) := by decide +kernel
theorem dX5_addBody_21 : decode cX5_addBody 21 = .ok (.ifCond .ne 4, 3) := by decide +kernel
theorem dX5_addBody_24 : decode cX5_addBody 24 = .ok (.return_, 1) := by decide +kernel
theorem dX5_addBody_25 : decode cX5_addBody 25 = .ok (.aload_n 0, 1) := by decide +kernel
theorem dX5_addBody_26 : decode cX5_addBody 26 = .ok (.dup, 1) := by decide +kernel
theorem dX5_addBody_27 : decode cX5_addBody 27 = .ok (.getfield 70, 3) := by decide +kernel
theorem dX5_addBody_30 : decode cX5_addBody 30 = .ok (.iconst 1, 1) := by decide +kernel
theorem dX5_addBody_31 : decode cX5_addBody 31 = .ok (.iadd, 1) := by decide +kernel
theorem dX5_addBody_32 : decode cX5_addBody 32 = .ok (.putfield 70, 3) := by decide +kernel
theorem dX5_addBody_35 : decode cX5_addBody 35 = .ok (.aload_n 0, 1) := by decide +kernel
theorem dX5_addBody_36 : decode cX5_addBody 36 = .ok (.getfield 25, 3) := by decide +kernel
theorem dX5_addBody_39 : decode cX5_addBody 39 = .ok (.iload 5, 2) := by decide +kernel
theorem dX5_addBody_41 : decode cX5_addBody 41 = .ok (.iload_n 2, 1) := by decide +kernel
theorem dX5_addBody_42 : decode cX5_addBody 42 = .ok (.iastore, 1) := by decide +kernel
theorem dX5_addBody_43 : decode cX5_addBody 43 = .ok (.aload_n 0, 1) := by decide +kernel
theorem dX5_addBody_44 : decode cX5_addBody 44 = .ok (.getfield 29, 3) := by decide +kernel
theorem dX5_addBody_47 : decode cX5_addBody 47 = .ok (.iload 5, 2) := by decide +kernel
theorem dX5_addBody_49 : decode cX5_addBody 49 = .ok (.iload_n 1, 1) := by decide +kernel
theorem dX5_addBody_50 : decode cX5_addBody 50 = .ok (.iastore, 1) := by decide +kernel
theorem dX5_addBody_51 : decode cX5_addBody 51 = .ok (.aload_n 0, 1) := by decide +kernel
theorem dX5_addBody_52 : decode cX5_addBody 52 = .ok (.getfield 32, 3) := by decide +kernel
theorem dX5_addBody_55 : decode cX5_addBody 55 = .ok (.iload 5, 2) := by decide +kernel
theorem dX5_addBody_57 : decode cX5_addBody 57 = .ok (.iload_n 3, 1) := by decide +kernel
theorem dX5_addBody_58 : decode cX5_addBody 58 = .ok (.bastore, 1) := by decide +kernel
theorem dX5_addBody_59 : decode cX5_addBody 59 = .ok (.aload_n 0, 1) := by decide +kernel
theorem dX5_addBody_60 : decode cX5_addBody 60 = .ok (.getfield 36, 3) := by decide +kernel
theorem dX5_addBody_63 : decode cX5_addBody 63 = .ok (.iload 5, 2) := by decide +kernel
theorem dX5_addBody_65 : decode cX5_addBody 65 = .ok (.iconst 0, 1) := by decide +kernel
theorem dX5_addBody_66 : decode cX5_addBody 66 = .ok (.iastore, 1) := by decide +kernel
theorem dX5_addBody_67 : decode cX5_addBody 67 = .ok (.aload_n 0, 1) := by decide +kernel
theorem dX5_addBody_68 : decode cX5_addBody 68 = .ok (.getfield 60, 3) := by decide +kernel
theorem dX5_addBody_71 : decode cX5_addBody 71 = .ok (.iload 5, 2) := by decide +kernel
theorem dX5_addBody_73 : decode cX5_addBody 73 = .ok (.iload 4, 2) := by decide +kernel
theorem dX5_addBody_75 : decode cX5_addBody 75 = .ok (.iconst (-1), 1) := by decide +kernel
theorem dX5_addBody_76 : decode cX5_addBody 76 = .ok (.if_icmp .ne 8, 3) := by decide +kernel
theorem dX5_addBody_79 : decode cX5_addBody 79 = .ok (.iload 5, 2) := by decide +kernel
theorem dX5_addBody_81 : decode cX5_addBody 81 = .ok (.goto 10, 3) := by decide +kernel
theorem dX5_addBody_84 : decode cX5_addBody 84 = .ok (.aload_n 0, 1) := by decide +kernel
theorem dX5_addBody_85 : decode cX5_addBody 85 = .ok (.getfield 60, 3) := by decide +kernel
theorem dX5_addBody_88 : decode cX5_addBody 88 = .ok (.iload 4, 2) := by decide +kernel
theorem dX5_addBody_90 : decode cX5_addBody 90 = .ok (.iaload, 1) := by decide +kernel
theorem dX5_addBody_91 : decode cX5_addBody 91 = .ok (.iastore, 1) := by decide +kernel
theorem dX5_addBody_92 : decode cX5_addBody 92 = .ok (.iload_n 3, 1) := by decide +kernel
theorem dX5_addBody_93 : decode cX5_addBody 93 = .ok (.ifCond .eq 29, 3) := by decide +kernel
theorem dX5_addBody_96 : decode cX5_addBody 96 = .ok (.aload_n 0, 1) := by decide +kernel
theorem dX5_addBody_97 : decode cX5_addBody 97 = .ok (.iload 5, 2) := by decide +kernel
theorem dX5_addBody_99 : decode cX5_addBody 99 = .ok (.iload_n 1, 1) := by decide +kernel
theorem dX5_addBody_100 : decode cX5_addBody 100 = .ok (.invokevirtual 102, 3) := by decide +kernel
theorem dX5_addBody_103 : decode cX5_addBody 103 = .ok (.aload_n 0, 1) := by decide +kernel
theorem dX5_addBody_104 : decode cX5_addBody 104 = .ok (.getfield 63, 3) := by decide +kernel
theorem dX5_addBody_107 : decode cX5_addBody 107 = .ok (.iload_n 1, 1) := by decide +kernel
theorem dX5_addBody_108 : decode cX5_addBody 108 = .ok (.bipush 48, 2) := by decide +kernel
theorem dX5_addBody_110 : decode cX5_addBody 110 = .ok (.imul, 1) := by decide +kernel
theorem dX5_addBody_111 : decode cX5_addBody 111 = .ok (.aload_n 0, 1) := by decide +kernel
theorem dX5_addBody_112 : decode cX5_addBody 112 = .ok (.getfield 60, 3) := by decide +kernel
theorem dX5_addBody_115 : decode cX5_addBody 115 = .ok (.iload 5, 2) := by decide +kernel
theorem dX5_addBody_117 : decode cX5_addBody 117 = .ok (.iaload, 1) := by decide +kernel
theorem dX5_addBody_118 : decode cX5_addBody 118 = .ok (.iadd, 1) := by decide +kernel
theorem dX5_addBody_119 : decode cX5_addBody 119 = .ok (.iload 5, 2) := by decide +kernel
theorem dX5_addBody_121 : decode cX5_addBody 121 = .ok (.iastore, 1) := by decide +kernel
theorem dX5_addBody_122 : decode cX5_addBody 122 = .ok (.return_, 1) := by decide +kernel
theorem dX5_addParameter_0 : decode cX5_addParameter 0 = .ok (.aload_n 0, 1) := by decide +kernel
theorem dX5_addParameter_1 : decode cX5_addParameter 1 = .ok (.getfield 36, 3) := by decide +kernel
theorem dX5_addParameter_4 : decode cX5_addParameter 4 = .ok (.iload_n 1, 1) := by decide +kernel
theorem dX5_addParameter_5 : decode cX5_addParameter 5 = .ok (.iaload, 1) := by decide +kernel
theorem dX5_addParameter_6 : decode cX5_addParameter 6 = .ok (.bipush 12, 2) := by decide +kernel
theorem dX5_addParameter_8 : decode cX5_addParameter 8 = .ok (.if_icmp .ge 20, 3) := by decide +kernel
theorem dX5_addParameter_11 : decode cX5_addParameter 11 = .ok (.aload_n 0, 1) := by decide +kernel
theorem dX5_addParameter_12 : decode cX5_addParameter 12 = .ok (.getfield 39, 3) := by decide +kernel
theorem dX5_addParameter_15 : decode cX5_addParameter 15 = .ok (.iload_n 1, 1) := by decide +kernel
theorem dX5_addParameter_16 : decode cX5_addParameter 16 = .ok (.bipush 12, 2) := by decide +kernel
theorem dX5_addParameter_18 : decode cX5_addParameter 18 = .ok (.imul, 1) := by decide +kernel
theorem dX5_addParameter_19 : decode cX5_addParameter 19 = .ok (.aload_n 0, 1) := by decide +kernel
theorem dX5_addParameter_20 : decode cX5_addParameter 20 = .ok (.getfield 36, 3) := by decide +kernel
theorem dX5_addParameter_23 : decode cX5_addParameter 23 = .ok (.iload_n 1, 1) := by decide +kernel
theorem dX5_addParameter_24 : decode cX5_addParameter 24 = .ok (.iaload, 1) := by decide +kernel
theorem dX5_addParameter_25 : decode cX5_addParameter 25 = .ok (.iadd, 1) := by decide +kernel
theorem dX5_addParameter_26 : decode cX5_addParameter 26 = .ok (.iload_n 2, 1) := by decide +kernel
theorem dX5_addParameter_27 : decode cX5_addParameter 27 = .ok (.iastore, 1) := by decide +kernel
theorem dX5_addParameter_28 : decode cX5_addParameter 28 = .ok (.aload_n 0, 1) := by decide +kernel
theorem dX5_addParameter_29 : decode cX5_addParameter 29 = .ok (.getfield 36, 3) := by decide +kernel
theorem dX5_addParameter_32 : decode cX5_addParameter 32 = .ok (.iload_n 1, 1) := by decide +kernel
theorem dX5_addParameter_33 : decode cX5_addParameter 33 = .ok (.dup2, 1) := by decide +kernel
theorem dX5_addParameter_34 : decode cX5_addParameter 34 = .ok (.iaload, 1) := by decide +kernel
theorem dX5_addParameter_35 : decode cX5_addParameter 35 = .ok (.iconst 1, 1) := by decide +kernel
theorem dX5_addParameter_36 : decode cX5_addParameter 36 = .ok (.iadd, 1) := by decide +kernel
theorem dX5_addParameter_37 : decode cX5_addParameter 37 = .ok (.iastore, 1) := by decide +kernel
theorem dX5_addParameter_38 : decode cX5_addParameter 38 = .ok (.return_, 1) := by decide +kernel
theorem dX5_bodyOf_0 : decode cX5_bodyOf 0 = .ok (.aload_n 0, 1) := by decide +kernel
theorem dX5_bodyOf_1 : decode cX5_bodyOf 1 = .ok (.getfield 12, 3) := by decide +kernel
theorem dX5_bodyOf_4 : decode cX5_bodyOf 4 = .ok (.iload_n 1, 1) := by decide +kernel
theorem dX5_bodyOf_5 : decode cX5_bodyOf 5 = .ok (.invokevirtual 98, 3) := by decide +kernel
theorem dX5_bodyOf_8 : decode cX5_bodyOf 8 = .ok (.ifCond .eq 17, 3) := by decide +kernel
theorem dX5_bodyOf_11 : decode cX5_bodyOf 11 = .ok (.aload_n 0, 1) := by decide +kernel
theorem dX5_bodyOf_12 : decode cX5_bodyOf 12 = .ok (.getfield 63, 3) := by decide +kernel
theorem dX5_bodyOf_15 : decode cX5_bodyOf 15 = .ok (.iload_n 1, 1) := by decide +kernel
theorem dX5_bodyOf_16 : decode cX5_bodyOf 16 = .ok (.bipush 48, 2) := by decide +kernel
theorem dX5_bodyOf_18 : decode cX5_bodyOf 18 = .ok (.imul, 1) := by decide +kernel
theorem dX5_bodyOf_19 : decode cX5_bodyOf 19 = .ok (.iload_n 2, 1) := by decide +kernel
theorem dX5_bodyOf_20 : decode cX5_bodyOf 20 = .ok (.iadd, 1) := by decide +kernel
theorem dX5_bodyOf_21 : decode cX5_bodyOf 21 = .ok (.iaload, 1) := by decide +kernel
theorem dX5_bodyOf_22 : decode cX5_bodyOf 22 = .ok (.goto 4, 3) := by decide +kernel
theorem dX5_bodyOf_25 : decode cX5_bodyOf 25 = .ok (.iconst (-1), 1) := by decide +kernel
theorem dX5_bodyOf_26 : decode cX5_bodyOf 26 = .ok (.istore_n 3, 1) := by decide +kernel
theorem dX5_bodyOf_27 : decode cX5_bodyOf 27 = .ok (.iload_n 3, 1) := by decide +kernel
theorem dX5_bodyOf_28 : decode cX5_bodyOf 28 = .ok (.iconst (-1), 1) := by decide +kernel
theorem dX5_bodyOf_29 : decode cX5_bodyOf 29 = .ok (.if_icmp .ne 7, 3) := by decide +kernel
theorem dX5_bodyOf_32 : decode cX5_bodyOf 32 = .ok (.iload_n 2, 1) := by decide +kernel
theorem dX5_bodyOf_33 : decode cX5_bodyOf 33 = .ok (.goto 4, 3) := by decide +kernel
theorem dX5_bodyOf_36 : decode cX5_bodyOf 36 = .ok (.iload_n 3, 1) := by decide +kernel
theorem dX5_bodyOf_37 : decode cX5_bodyOf 37 = .ok (.ireturn, 1) := by decide +kernel
theorem dX5_takes_0 : decode cX5_takes 0 = .ok (.aload_n 0, 1) := by decide +kernel
theorem dX5_takes_1 : decode cX5_takes 1 = .ok (.getfield 21, 3) := by decide +kernel
theorem dX5_takes_4 : decode cX5_takes 4 = .ok (.getfield 106, 3) := by decide +kernel
theorem dX5_takes_7 : decode cX5_takes 7 = .ok (.iload_n 1, 1) := by decide +kernel
theorem dX5_takes_8 : decode cX5_takes 8 = .ok (.iaload, 1) := by decide +kernel
theorem dX5_takes_9 : decode cX5_takes 9 = .ok (.istore_n 2, 1) := by decide +kernel
theorem dX5_takes_10 : decode cX5_takes 10 = .ok (.iload_n 2, 1) := by decide +kernel
theorem dX5_takes_11 : decode cX5_takes 11 = .ok (.bipush 39, 2) := by decide +kernel
theorem dX5_takes_13 : decode cX5_takes 13 = .ok (.if_icmp .eq 9, 3) := by decide +kernel
theorem dX5_takes_16 : decode cX5_takes 16 = .ok (.iload_n 2, 1) := by decide +kernel
theorem dX5_takes_17 : decode cX5_takes 17 = .ok (.bipush 40, 2) := by decide +kernel
theorem dX5_takes_19 : decode cX5_takes 19 = .ok (.if_icmp .ne 20, 3) := by decide +kernel
theorem dX5_takes_22 : decode cX5_takes 22 = .ok (.aload_n 0, 1) := by decide +kernel
theorem dX5_takes_23 : decode cX5_takes 23 = .ok (.getfield 36, 3) := by decide +kernel
theorem dX5_takes_26 : decode cX5_takes 26 = .ok (.aload_n 0, 1) := by decide +kernel
theorem dX5_takes_27 : decode cX5_takes 27 = .ok (.getfield 21, 3) := by decide +kernel
theorem dX5_takes_30 : decode cX5_takes 30 = .ok (.getfield 109, 3) := by decide +kernel
theorem dX5_takes_33 : decode cX5_takes 33 = .ok (.iload_n 1, 1) := by decide +kernel
theorem dX5_takes_34 : decode cX5_takes 34 = .ok (.iaload, 1) := by decide +kernel
theorem dX5_takes_35 : decode cX5_takes 35 = .ok (.iaload, 1) := by decide +kernel
theorem dX5_takes_36 : decode cX5_takes 36 = .ok (.goto 8, 3) := by decide +kernel
theorem dX5_takes_39 : decode cX5_takes 39 = .ok (.getstatic 112, 3) := by decide +kernel
theorem dX5_takes_42 : decode cX5_takes 42 = .ok (.iload_n 2, 1) := by decide +kernel
theorem dX5_takes_43 : decode cX5_takes 43 = .ok (.iaload, 1) := by decide +kernel
theorem dX5_takes_44 : decode cX5_takes 44 = .ok (.ireturn, 1) := by decide +kernel
theorem dX5_leaves_0 : decode cX5_leaves 0 = .ok (.aload_n 0, 1) := by decide +kernel
theorem dX5_leaves_1 : decode cX5_leaves 1 = .ok (.getfield 21, 3) := by decide +kernel
theorem dX5_leaves_4 : decode cX5_leaves 4 = .ok (.getfield 106, 3) := by decide +kernel
theorem dX5_leaves_7 : decode cX5_leaves 7 = .ok (.iload_n 1, 1) := by decide +kernel
theorem dX5_leaves_8 : decode cX5_leaves 8 = .ok (.iaload, 1) := by decide +kernel
theorem dX5_leaves_9 : decode cX5_leaves 9 = .ok (.istore_n 2, 1) := by decide +kernel
theorem dX5_leaves_10 : decode cX5_leaves 10 = .ok (.iload_n 2, 1) := by decide +kernel
theorem dX5_leaves_11 : decode cX5_leaves 11 = .ok (.bipush 39, 2) := by decide +kernel
theorem dX5_leaves_13 : decode cX5_leaves 13 = .ok (.if_icmp .eq 9, 3) := by decide +kernel
theorem dX5_leaves_16 : decode cX5_leaves 16 = .ok (.iload_n 2, 1) := by decide +kernel
theorem dX5_leaves_17 : decode cX5_leaves 17 = .ok (.bipush 40, 2) := by decide +kernel
theorem dX5_leaves_19 : decode cX5_leaves 19 = .ok (.if_icmp .ne 28, 3) := by decide +kernel
theorem dX5_leaves_22 : decode cX5_leaves 22 = .ok (.aload_n 0, 1) := by decide +kernel
theorem dX5_leaves_23 : decode cX5_leaves 23 = .ok (.getfield 42, 3) := by decide +kernel
theorem dX5_leaves_26 : decode cX5_leaves 26 = .ok (.aload_n 0, 1) := by decide +kernel
theorem dX5_leaves_27 : decode cX5_leaves 27 = .ok (.getfield 21, 3) := by decide +kernel
theorem dX5_leaves_30 : decode cX5_leaves 30 = .ok (.getfield 109, 3) := by decide +kernel
theorem dX5_leaves_33 : decode cX5_leaves 33 = .ok (.iload_n 1, 1) := by decide +kernel
theorem dX5_leaves_34 : decode cX5_leaves 34 = .ok (.iaload, 1) := by decide +kernel
theorem dX5_leaves_35 : decode cX5_leaves 35 = .ok (.iaload, 1) := by decide +kernel
theorem dX5_leaves_36 : decode cX5_leaves 36 = .ok (.bipush 68, 2) := by decide +kernel
theorem dX5_leaves_38 : decode cX5_leaves 38 = .ok (.if_icmp .ne 7, 3) := by decide +kernel
theorem dX5_leaves_41 : decode cX5_leaves 41 = .ok (.iconst 0, 1) := by decide +kernel
theorem dX5_leaves_42 : decode cX5_leaves 42 = .ok (.goto 4, 3) := by decide +kernel
theorem dX5_leaves_45 : decode cX5_leaves 45 = .ok (.iconst 1, 1) := by decide +kernel
theorem dX5_leaves_46 : decode cX5_leaves 46 = .ok (.ireturn, 1) := by decide +kernel
theorem dX5_leaves_47 : decode cX5_leaves 47 = .ok (.getstatic 115, 3) := by decide +kernel
theorem dX5_leaves_50 : decode cX5_leaves 50 = .ok (.iload_n 2, 1) := by decide +kernel
theorem dX5_leaves_51 : decode cX5_leaves 51 = .ok (.iaload, 1) := by decide +kernel
theorem dX5_leaves_52 : decode cX5_leaves 52 = .ok (.ireturn, 1) := by decide +kernel
theorem dX5_told_0 : decode cX5_told 0 = .ok (.aload_n 0, 1) := by decide +kernel
theorem dX5_told_1 : decode cX5_told 1 = .ok (.getfield 21, 3) := by decide +kernel
theorem dX5_told_4 : decode cX5_told 4 = .ok (.getfield 109, 3) := by decide +kernel
theorem dX5_told_7 : decode cX5_told 7 = .ok (.iload_n 1, 1) := by decide +kernel
theorem dX5_told_8 : decode cX5_told 8 = .ok (.iaload, 1) := by decide +kernel
theorem dX5_told_9 : decode cX5_told 9 = .ok (.istore_n 3, 1) := by decide +kernel
theorem dX5_told_10 : decode cX5_told 10 = .ok (.aload_n 0, 1) := by decide +kernel
theorem dX5_told_11 : decode cX5_told 11 = .ok (.getfield 21, 3) := by decide +kernel
theorem dX5_told_14 : decode cX5_told 14 = .ok (.getfield 118, 3) := by decide +kernel
theorem dX5_told_17 : decode cX5_told 17 = .ok (.iload_n 1, 1) := by decide +kernel
theorem dX5_told_18 : decode cX5_told 18 = .ok (.iaload, 1) := by decide +kernel
theorem dX5_told_19 : decode cX5_told 19 = .ok (.istore 4, 2) := by decide +kernel
theorem dX5_told_21 : decode cX5_told 21 = .ok (.aload_n 0, 1) := by decide +kernel
theorem dX5_told_22 : decode cX5_told 22 = .ok (.getfield 21, 3) := by decide +kernel
theorem dX5_told_25 : decode cX5_told 25 = .ok (.getfield 106, 3) := by decide +kernel
theorem dX5_told_28 : decode cX5_told 28 = .ok (.iload_n 1, 1) := by decide +kernel
theorem dX5_told_29 : decode cX5_told 29 = .ok (.iaload, 1) := by decide +kernel
theorem dX5_told_30 : decode cX5_told 30 = .ok (.tableswitch 288 3 42 #[174, 288, 174, 174, 174, 288, 288, 288, 288, 288, 288, 288, 288, 288, 288, 288, 288, 288, 288, 288, 288, 288, 288, 177, 177, 177, 177, 288, 288, 179, 182, 194, 216, 219, 177, 177, 238, 250, 271, 273], 174) := by decide +kernel
theorem dX5_told_204 : decode cX5_told 204 = .ok (.bipush 67, 2) := by decide +kernel
theorem dX5_told_206 : decode cX5_told 206 = .ok (.ireturn, 1) := by decide +kernel
theorem dX5_told_207 : decode cX5_told 207 = .ok (.iconst 0, 1) := by decide +kernel
theorem dX5_told_208 : decode cX5_told 208 = .ok (.ireturn, 1) := by decide +kernel
theorem dX5_told_209 : decode cX5_told 209 = .ok (.bipush 69, 2) := by decide +kernel
theorem dX5_told_211 : decode cX5_told 211 = .ok (.ireturn, 1) := by decide +kernel
theorem dX5_told_212 : decode cX5_told 212 = .ok (.iload_n 2, 1) := by decide +kernel
theorem dX5_told_213 : decode cX5_told 213 = .ok (.ifCond .ne 8, 3) := by decide +kernel
theorem dX5_told_216 : decode cX5_told 216 = .ok (.bipush 69, 2) := by decide +kernel
theorem dX5_told_218 : decode cX5_told 218 = .ok (.goto 5, 3) := by decide +kernel
theorem dX5_told_221 : decode cX5_told 221 = .ok (.bipush 66, 2) := by decide +kernel
theorem dX5_told_223 : decode cX5_told 223 = .ok (.ireturn, 1) := by decide +kernel
theorem dX5_told_224 : decode cX5_told 224 = .ok (.iload_n 2, 1) := by decide +kernel
theorem dX5_told_225 : decode cX5_told 225 = .ok (.ifCond .ne 8, 3) := by decide +kernel
theorem dX5_told_228 : decode cX5_told 228 = .ok (.bipush 69, 2) := by decide +kernel
theorem dX5_told_230 : decode cX5_told 230 = .ok (.goto 15, 3) := by decide +kernel
theorem dX5_told_233 : decode cX5_told 233 = .ok (.iload_n 2, 1) := by decide +kernel
theorem dX5_told_234 : decode cX5_told 234 = .ok (.iconst 1, 1) := by decide +kernel
theorem dX5_told_235 : decode cX5_told 235 = .ok (.if_icmp .ne 8, 3) := by decide +kernel
theorem dX5_told_238 : decode cX5_told 238 = .ok (.bipush 66, 2) := by decide +kernel
theorem dX5_told_240 : decode cX5_told 240 = .ok (.goto 5, 3) := by decide +kernel
theorem dX5_told_243 : decode cX5_told 243 = .ok (.bipush 67, 2) := by decide +kernel
theorem dX5_told_245 : decode cX5_told 245 = .ok (.ireturn, 1) := by decide +kernel
theorem dX5_told_246 : decode cX5_told 246 = .ok (.iload 4, 2) := by decide +kernel
theorem dX5_told_248 : decode cX5_told 248 = .ok (.ireturn, 1) := by decide +kernel
theorem dX5_told_249 : decode cX5_told 249 = .ok (.iload_n 2, 1) := by decide +kernel
theorem dX5_told_250 : decode cX5_told 250 = .ok (.ifCond .ne 8, 3) := by decide +kernel
theorem dX5_told_253 : decode cX5_told 253 = .ok (.iload 4, 2) := by decide +kernel
theorem dX5_told_255 : decode cX5_told 255 = .ok (.goto 12, 3) := by decide +kernel
theorem dX5_told_258 : decode cX5_told 258 = .ok (.aload_n 0, 1) := by decide +kernel
theorem dX5_told_259 : decode cX5_told 259 = .ok (.getfield 12, 3) := by decide +kernel
theorem dX5_told_262 : decode cX5_told 262 = .ok (.getfield 121, 3) := by decide +kernel
theorem dX5_told_265 : decode cX5_told 265 = .ok (.iload_n 3, 1) := by decide +kernel
theorem dX5_told_266 : decode cX5_told 266 = .ok (.iaload, 1) := by decide +kernel
theorem dX5_told_267 : decode cX5_told 267 = .ok (.ireturn, 1) := by decide +kernel
theorem dX5_told_268 : decode cX5_told 268 = .ok (.aload_n 0, 1) := by decide +kernel
theorem dX5_told_269 : decode cX5_told 269 = .ok (.getfield 39, 3) := by decide +kernel
theorem dX5_told_272 : decode cX5_told 272 = .ok (.iload_n 3, 1) := by decide +kernel
theorem dX5_told_273 : decode cX5_told 273 = .ok (.bipush 12, 2) := by decide +kernel
theorem dX5_told_275 : decode cX5_told 275 = .ok (.imul, 1) := by decide +kernel
theorem dX5_told_276 : decode cX5_told 276 = .ok (.iload_n 2, 1) := by decide +kernel
theorem dX5_told_277 : decode cX5_told 277 = .ok (.iadd, 1) := by decide +kernel
theorem dX5_told_278 : decode cX5_told 278 = .ok (.iaload, 1) := by decide +kernel
theorem dX5_told_279 : decode cX5_told 279 = .ok (.ireturn, 1) := by decide +kernel
theorem dX5_told_280 : decode cX5_told 280 = .ok (.iload_n 2, 1) := by decide +kernel
theorem dX5_told_281 : decode cX5_told 281 = .ok (.ifCond .ne 8, 3) := by decide +kernel
theorem dX5_told_284 : decode cX5_told 284 = .ok (.iload 4, 2) := by decide +kernel
theorem dX5_told_286 : decode cX5_told 286 = .ok (.goto 14, 3) := by decide +kernel
theorem dX5_told_289 : decode cX5_told 289 = .ok (.aload_n 0, 1) := by decide +kernel
theorem dX5_told_290 : decode cX5_told 290 = .ok (.getfield 39, 3) := by decide +kernel
theorem dX5_told_293 : decode cX5_told 293 = .ok (.iload_n 3, 1) := by decide +kernel
theorem dX5_told_294 : decode cX5_told 294 = .ok (.bipush 12, 2) := by decide +kernel
theorem dX5_told_296 : decode cX5_told 296 = .ok (.imul, 1) := by decide +kernel
theorem dX5_told_297 : decode cX5_told 297 = .ok (.iload_n 2, 1) := by decide +kernel
theorem dX5_told_298 : decode cX5_told 298 = .ok (.iadd, 1) := by decide +kernel
theorem dX5_told_299 : decode cX5_told 299 = .ok (.iaload, 1) := by decide +kernel
theorem dX5_told_300 : decode cX5_told 300 = .ok (.ireturn, 1) := by decide +kernel
theorem dX5_told_301 : decode cX5_told 301 = .ok (.iconst 1, 1) := by decide +kernel
theorem dX5_told_302 : decode cX5_told 302 = .ok (.ireturn, 1) := by decide +kernel
theorem dX5_told_303 : decode cX5_told 303 = .ok (.aload_n 0, 1) := by decide +kernel
theorem dX5_told_304 : decode cX5_told 304 = .ok (.getfield 42, 3) := by decide +kernel
theorem dX5_told_307 : decode cX5_told 307 = .ok (.aload_n 0, 1) := by decide +kernel
theorem dX5_told_308 : decode cX5_told 308 = .ok (.getfield 21, 3) := by decide +kernel
theorem dX5_told_311 : decode cX5_told 311 = .ok (.getfield 124, 3) := by decide +kernel
theorem dX5_told_314 : decode cX5_told 314 = .ok (.iload_n 1, 1) := by decide +kernel
theorem dX5_told_315 : decode cX5_told 315 = .ok (.iaload, 1) := by decide +kernel
theorem dX5_told_316 : decode cX5_told 316 = .ok (.iaload, 1) := by decide +kernel
theorem dX5_told_317 : decode cX5_told 317 = .ok (.ireturn, 1) := by decide +kernel
theorem dX5_told_318 : decode cX5_told 318 = .ok (.bipush 66, 2) := by decide +kernel
theorem dX5_told_320 : decode cX5_told 320 = .ok (.ireturn, 1) := by decide +kernel
theorem dX5_leftBy_0 : decode cX5_leftBy 0 = .ok (.aload_n 0, 1) := by decide +kernel
theorem dX5_leftBy_1 : decode cX5_leftBy 1 = .ok (.getfield 21, 3) := by decide +kernel
theorem dX5_leftBy_4 : decode cX5_leftBy 4 = .ok (.getfield 106, 3) := by decide +kernel
theorem dX5_leftBy_7 : decode cX5_leftBy 7 = .ok (.iload_n 1, 1) := by decide +kernel
theorem dX5_leftBy_8 : decode cX5_leftBy 8 = .ok (.iaload, 1) := by decide +kernel
theorem dX5_leftBy_9 : decode cX5_leftBy 9 = .ok (.lookupswitch 113 #[(1, 67), (30, 70), (31, 70), (35, 80), (37, 70), (39, 98), (40, 98)], 67) := by decide +kernel
theorem dX5_leftBy_76 : decode cX5_leftBy 76 = .ok (.bipush 65, 2) := by decide +kernel
theorem dX5_leftBy_78 : decode cX5_leftBy 78 = .ok (.ireturn, 1) := by decide +kernel
theorem dX5_leftBy_79 : decode cX5_leftBy 79 = .ok (.aload_n 0, 1) := by decide +kernel
theorem dX5_leftBy_80 : decode cX5_leftBy 80 = .ok (.getfield 21, 3) := by decide +kernel
theorem dX5_leftBy_83 : decode cX5_leftBy 83 = .ok (.getfield 109, 3) := by decide +kernel
theorem dX5_leftBy_86 : decode cX5_leftBy 86 = .ok (.iload_n 1, 1) := by decide +kernel
theorem dX5_leftBy_87 : decode cX5_leftBy 87 = .ok (.iaload, 1) := by decide +kernel
theorem dX5_leftBy_88 : decode cX5_leftBy 88 = .ok (.ireturn, 1) := by decide +kernel
theorem dX5_leftBy_89 : decode cX5_leftBy 89 = .ok (.aload_n 0, 1) := by decide +kernel
theorem dX5_leftBy_90 : decode cX5_leftBy 90 = .ok (.getfield 12, 3) := by decide +kernel
theorem dX5_leftBy_93 : decode cX5_leftBy 93 = .ok (.getfield 121, 3) := by decide +kernel
theorem dX5_leftBy_96 : decode cX5_leftBy 96 = .ok (.aload_n 0, 1) := by decide +kernel
theorem dX5_leftBy_97 : decode cX5_leftBy 97 = .ok (.getfield 21, 3) := by decide +kernel
theorem dX5_leftBy_100 : decode cX5_leftBy 100 = .ok (.getfield 109, 3) := by decide +kernel
theorem dX5_leftBy_103 : decode cX5_leftBy 103 = .ok (.iload_n 1, 1) := by decide +kernel
theorem dX5_leftBy_104 : decode cX5_leftBy 104 = .ok (.iaload, 1) := by decide +kernel
theorem dX5_leftBy_105 : decode cX5_leftBy 105 = .ok (.iaload, 1) := by decide +kernel
theorem dX5_leftBy_106 : decode cX5_leftBy 106 = .ok (.ireturn, 1) := by decide +kernel
theorem dX5_leftBy_107 : decode cX5_leftBy 107 = .ok (.aload_n 0, 1) := by decide +kernel
theorem dX5_leftBy_108 : decode cX5_leftBy 108 = .ok (.getfield 42, 3) := by decide +kernel
theorem dX5_leftBy_111 : decode cX5_leftBy 111 = .ok (.aload_n 0, 1) := by decide +kernel
theorem dX5_leftBy_112 : decode cX5_leftBy 112 = .ok (.getfield 21, 3) := by decide +kernel
theorem dX5_leftBy_115 : decode cX5_leftBy 115 = .ok (.getfield 109, 3) := by decide +kernel
theorem dX5_leftBy_118 : decode cX5_leftBy 118 = .ok (.iload_n 1, 1) := by decide +kernel
theorem dX5_leftBy_119 : decode cX5_leftBy 119 = .ok (.iaload, 1) := by decide +kernel
theorem dX5_leftBy_120 : decode cX5_leftBy 120 = .ok (.iaload, 1) := by decide +kernel
theorem dX5_leftBy_121 : decode cX5_leftBy 121 = .ok (.ireturn, 1) := by decide +kernel
theorem dX5_leftBy_122 : decode cX5_leftBy 122 = .ok (.bipush 66, 2) := by decide +kernel
theorem dX5_leftBy_124 : decode cX5_leftBy 124 = .ok (.ireturn, 1) := by decide +kernel
theorem dX5_suits_0 : decode cX5_suits 0 = .ok (.aload_n 0, 1) := by decide +kernel
theorem dX5_suits_1 : decode cX5_suits 1 = .ok (.getfield 21, 3) := by decide +kernel
theorem dX5_suits_4 : decode cX5_suits 4 = .ok (.getfield 106, 3) := by decide +kernel
theorem dX5_suits_7 : decode cX5_suits 7 = .ok (.iload_n 1, 1) := by decide +kernel
theorem dX5_suits_8 : decode cX5_suits 8 = .ok (.iaload, 1) := by decide +kernel
theorem dX5_suits_9 : decode cX5_suits 9 = .ok (.lookupswitch 108 #[(2, 35), (4, 59), (43, 83)], 35) := by decide +kernel
theorem dX5_suits_44 : decode cX5_suits 44 = .ok (.aload_n 2, 1) := by decide +kernel
theorem dX5_suits_45 : decode cX5_suits 45 = .ok (.iload_n 3, 1) := by decide +kernel
theorem dX5_suits_46 : decode cX5_suits 46 = .ok (.aload_n 0, 1) := by decide +kernel
theorem dX5_suits_47 : decode cX5_suits 47 = .ok (.getfield 21, 3) := by decide +kernel
theorem dX5_suits_50 : decode cX5_suits 50 = .ok (.getfield 109, 3) := by decide +kernel
theorem dX5_suits_53 : decode cX5_suits 53 = .ok (.iload_n 1, 1) := by decide +kernel
theorem dX5_suits_54 : decode cX5_suits 54 = .ok (.iaload, 1) := by decide +kernel
theorem dX5_suits_55 : decode cX5_suits 55 = .ok (.iadd, 1) := by decide +kernel
theorem dX5_suits_56 : decode cX5_suits 56 = .ok (.baload, 1) := by decide +kernel
theorem dX5_suits_57 : decode cX5_suits 57 = .ok (.bipush 67, 2) := by decide +kernel
theorem dX5_suits_59 : decode cX5_suits 59 = .ok (.if_icmp .eq 7, 3) := by decide +kernel
theorem dX5_suits_62 : decode cX5_suits 62 = .ok (.iconst 1, 1) := by decide +kernel
theorem dX5_suits_63 : decode cX5_suits 63 = .ok (.goto 4, 3) := by decide +kernel
theorem dX5_suits_66 : decode cX5_suits 66 = .ok (.iconst 0, 1) := by decide +kernel
theorem dX5_suits_67 : decode cX5_suits 67 = .ok (.ireturn, 1) := by decide +kernel
theorem dX5_suits_68 : decode cX5_suits 68 = .ok (.aload_n 2, 1) := by decide +kernel
theorem dX5_suits_69 : decode cX5_suits 69 = .ok (.iload_n 3, 1) := by decide +kernel
theorem dX5_suits_70 : decode cX5_suits 70 = .ok (.aload_n 0, 1) := by decide +kernel
theorem dX5_suits_71 : decode cX5_suits 71 = .ok (.getfield 21, 3) := by decide +kernel
theorem dX5_suits_74 : decode cX5_suits 74 = .ok (.getfield 109, 3) := by decide +kernel
theorem dX5_suits_77 : decode cX5_suits 77 = .ok (.iload_n 1, 1) := by decide +kernel
theorem dX5_suits_78 : decode cX5_suits 78 = .ok (.iaload, 1) := by decide +kernel
theorem dX5_suits_79 : decode cX5_suits 79 = .ok (.iadd, 1) := by decide +kernel
theorem dX5_suits_80 : decode cX5_suits 80 = .ok (.baload, 1) := by decide +kernel
theorem dX5_suits_81 : decode cX5_suits 81 = .ok (.bipush 66, 2) := by decide +kernel
theorem dX5_suits_83 : decode cX5_suits 83 = .ok (.if_icmp .ne 7, 3) := by decide +kernel
theorem dX5_suits_86 : decode cX5_suits 86 = .ok (.iconst 1, 1) := by decide +kernel
theorem dX5_suits_87 : decode cX5_suits 87 = .ok (.goto 4, 3) := by decide +kernel
theorem dX5_suits_90 : decode cX5_suits 90 = .ok (.iconst 0, 1) := by decide +kernel
theorem dX5_suits_91 : decode cX5_suits 91 = .ok (.ireturn, 1) := by decide +kernel
theorem dX5_suits_92 : decode cX5_suits 92 = .ok (.aload_n 0, 1) := by decide +kernel
theorem dX5_suits_93 : decode cX5_suits 93 = .ok (.getfield 42, 3) := by decide +kernel
theorem dX5_suits_96 : decode cX5_suits 96 = .ok (.aload_n 0, 1) := by decide +kernel
theorem dX5_suits_97 : decode cX5_suits 97 = .ok (.getfield 21, 3) := by decide +kernel
theorem dX5_suits_100 : decode cX5_suits 100 = .ok (.getfield 124, 3) := by decide +kernel
theorem dX5_suits_103 : decode cX5_suits 103 = .ok (.iload_n 1, 1) := by decide +kernel
theorem dX5_suits_104 : decode cX5_suits 104 = .ok (.iaload, 1) := by decide +kernel
theorem dX5_suits_105 : decode cX5_suits 105 = .ok (.iaload, 1) := by decide +kernel
theorem dX5_suits_106 : decode cX5_suits 106 = .ok (.bipush 68, 2) := by decide +kernel
theorem dX5_suits_108 : decode cX5_suits 108 = .ok (.if_icmp .ne 7, 3) := by decide +kernel
theorem dX5_suits_111 : decode cX5_suits 111 = .ok (.iconst 1, 1) := by decide +kernel
theorem dX5_suits_112 : decode cX5_suits 112 = .ok (.goto 4, 3) := by decide +kernel
theorem dX5_suits_115 : decode cX5_suits 115 = .ok (.iconst 0, 1) := by decide +kernel
theorem dX5_suits_116 : decode cX5_suits 116 = .ok (.ireturn, 1) := by decide +kernel
theorem dX5_suits_117 : decode cX5_suits 117 = .ok (.aload_n 0, 1) := by decide +kernel
theorem dX5_suits_118 : decode cX5_suits 118 = .ok (.iload_n 1, 1) := by decide +kernel
theorem dX5_suits_119 : decode cX5_suits 119 = .ok (.invokevirtual 127, 3) := by decide +kernel
theorem dX5_suits_122 : decode cX5_suits 122 = .ok (.istore 5, 2) := by decide +kernel
theorem dX5_suits_124 : decode cX5_suits 124 = .ok (.iconst 0, 1) := by decide +kernel
theorem dX5_suits_125 : decode cX5_suits 125 = .ok (.istore 6, 2) := by decide +kernel
theorem dX5_suits_127 : decode cX5_suits 127 = .ok (.iload 6, 2) := by decide +kernel
theorem dX5_suits_129 : decode cX5_suits 129 = .ok (.iload 5, 2) := by decide +kernel
theorem dX5_suits_131 : decode cX5_suits 131 = .ok (.if_icmp .ge 35, 3) := by decide +kernel
theorem dX5_suits_134 : decode cX5_suits 134 = .ok (.aload_n 0, 1) := by decide +kernel
theorem dX5_suits_135 : decode cX5_suits 135 = .ok (.getfield 12, 3) := by decide +kernel
theorem dX5_suits_138 : decode cX5_suits 138 = .ok (.aload_n 2, 1) := by decide +kernel
theorem dX5_suits_139 : decode cX5_suits 139 = .ok (.iload 4, 2) := by decide +kernel
theorem dX5_suits_141 : decode cX5_suits 141 = .ok (.iload 6, 2) := by decide +kernel
theorem dX5_suits_143 : decode cX5_suits 143 = .ok (.iadd, 1) := by decide +kernel
theorem dX5_suits_144 : decode cX5_suits 144 = .ok (.baload, 1) := by decide +kernel
theorem dX5_suits_145 : decode cX5_suits 145 = .ok (.aload_n 0, 1) := by decide +kernel
theorem dX5_suits_146 : decode cX5_suits 146 = .ok (.iload_n 1, 1) := by decide +kernel
theorem dX5_suits_147 : decode cX5_suits 147 = .ok (.iload 6, 2) := by decide +kernel
theorem dX5_suits_149 : decode cX5_suits 149 = .ok (.invokevirtual 131, 3) := by decide +kernel
theorem dX5_suits_152 : decode cX5_suits 152 = .ok (.invokevirtual 135, 3) := by decide +kernel
theorem dX5_suits_155 : decode cX5_suits 155 = .ok (.ifCond .ne 5, 3) := by decide +kernel
theorem dX5_suits_158 : decode cX5_suits 158 = .ok (.iconst 0, 1) := by decide +kernel
theorem dX5_suits_159 : decode cX5_suits 159 = .ok (.ireturn, 1) := by decide +kernel
theorem dX5_suits_160 : decode cX5_suits 160 = .ok (.iinc 6 1, 3) := by decide +kernel
theorem dX5_suits_163 : decode cX5_suits 163 = .ok (.goto (-36), 3) := by decide +kernel
theorem dX5_suits_166 : decode cX5_suits 166 = .ok (.iconst 1, 1) := by decide +kernel
theorem dX5_suits_167 : decode cX5_suits 167 = .ok (.ireturn, 1) := by decide +kernel
