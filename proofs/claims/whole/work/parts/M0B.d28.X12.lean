theorem dX12_fits_569 : decode cX12_fits 569 = .ok (.if_icmp .gt 13, 3) := by decide +kernel
theorem dX12_fits_572 : decode cX12_fits 572 = .ok (.iload 6, 2) := by decide +kernel
theorem dX12_fits_574 : decode cX12_fits 574 = .ok (.ifCond .ne 12, 3) := by decide +kernel
theorem dX12_fits_577 : decode cX12_fits 577 = .ok (.iload 7, 2) := by decide +kernel
theorem dX12_fits_579 : decode cX12_fits 579 = .ok (.ifCond .ne 7, 3) := by decide +kernel
theorem dX12_fits_582 : decode cX12_fits 582 = .ok (.iconst 1, 1) := by decide +kernel
theorem dX12_fits_583 : decode cX12_fits 583 = .ok (.goto 4, 3) := by decide +kernel
theorem dX12_fits_586 : decode cX12_fits 586 = .ok (.iconst 0, 1) := by decide +kernel
theorem dX12_fits_587 : decode cX12_fits 587 = .ok (.ireturn, 1) := by decide +kernel
theorem dX12_isElement_0 : decode cX12_isElement 0 = .ok (.iload_n 1, 1) := by decide +kernel
theorem dX12_isElement_1 : decode cX12_isElement 1 = .ok (.iconst 1, 1) := by decide +kernel
theorem dX12_isElement_2 : decode cX12_isElement 2 = .ok (.if_icmp .ne 14, 3) := by decide +kernel
theorem dX12_isElement_5 : decode cX12_isElement 5 = .ok (.iload_n 2, 1) := by decide +kernel
theorem dX12_isElement_6 : decode cX12_isElement 6 = .ok (.iconst 2, 1) := by decide +kernel
theorem dX12_isElement_7 : decode cX12_isElement 7 = .ok (.if_icmp .eq 7, 3) := by decide +kernel
theorem dX12_isElement_10 : decode cX12_isElement 10 = .ok (.iconst 1, 1) := by decide +kernel
theorem dX12_isElement_11 : decode cX12_isElement 11 = .ok (.goto 4, 3) := by decide +kernel
theorem dX12_isElement_14 : decode cX12_isElement 14 = .ok (.iconst 0, 1) := by decide +kernel
theorem dX12_isElement_15 : decode cX12_isElement 15 = .ok (.ireturn, 1) := by decide +kernel
theorem dX12_isElement_16 : decode cX12_isElement 16 = .ok (.iload_n 1, 1) := by decide +kernel
theorem dX12_isElement_17 : decode cX12_isElement 17 = .ok (.invokestatic 476, 3) := by decide +kernel
theorem dX12_isElement_20 : decode cX12_isElement 20 = .ok (.ifCond .eq 19, 3) := by decide +kernel
theorem dX12_isElement_23 : decode cX12_isElement 23 = .ok (.aload_n 0, 1) := by decide +kernel
theorem dX12_isElement_24 : decode cX12_isElement 24 = .ok (.iload_n 2, 1) := by decide +kernel
theorem dX12_isElement_25 : decode cX12_isElement 25 = .ok (.iload_n 1, 1) := by decide +kernel
theorem dX12_isElement_26 : decode cX12_isElement 26 = .ok (.invokestatic 470, 3) := by decide +kernel
theorem dX12_isElement_29 : decode cX12_isElement 29 = .ok (.invokestatic 436, 3) := by decide +kernel
theorem dX12_isElement_32 : decode cX12_isElement 32 = .ok (.ifCond .eq 7, 3) := by decide +kernel
theorem dX12_isElement_35 : decode cX12_isElement 35 = .ok (.iconst 1, 1) := by decide +kernel
theorem dX12_isElement_36 : decode cX12_isElement 36 = .ok (.goto 4, 3) := by decide +kernel
theorem dX12_isElement_39 : decode cX12_isElement 39 = .ok (.iconst 0, 1) := by decide +kernel
theorem dX12_isElement_40 : decode cX12_isElement 40 = .ok (.ireturn, 1) := by decide +kernel
theorem dX12_areArguments_0 : decode cX12_areArguments 0 = .ok (.aload_n 1, 1) := by decide +kernel
theorem dX12_areArguments_1 : decode cX12_areArguments 1 = .ok (.getfield 313, 3) := by decide +kernel
theorem dX12_areArguments_4 : decode cX12_areArguments 4 = .ok (.iload_n 3, 1) := by decide +kernel
theorem dX12_areArguments_5 : decode cX12_areArguments 5 = .ok (.iaload, 1) := by decide +kernel
theorem dX12_areArguments_6 : decode cX12_areArguments 6 = .ok (.istore 4, 2) := by decide +kernel
theorem dX12_areArguments_8 : decode cX12_areArguments 8 = .ok (.iconst 0, 1) := by decide +kernel
theorem dX12_areArguments_9 : decode cX12_areArguments 9 = .ok (.istore 5, 2) := by decide +kernel
theorem dX12_areArguments_11 : decode cX12_areArguments 11 = .ok (.iload 5, 2) := by decide +kernel
theorem dX12_areArguments_13 : decode cX12_areArguments 13 = .ok (.iload 4, 2) := by decide +kernel
theorem dX12_areArguments_15 : decode cX12_areArguments 15 = .ok (.if_icmp .ge 77, 3) := by decide +kernel
theorem dX12_areArguments_18 : decode cX12_areArguments 18 = .ok (.iload 5, 2) := by decide +kernel
theorem dX12_areArguments_20 : decode cX12_areArguments 20 = .ok (.ifCond .ne 26, 3) := by decide +kernel
theorem dX12_areArguments_23 : decode cX12_areArguments 23 = .ok (.aload_n 1, 1) := by decide +kernel
theorem dX12_areArguments_24 : decode cX12_areArguments 24 = .ok (.getfield 353, 3) := by decide +kernel
theorem dX12_areArguments_27 : decode cX12_areArguments 27 = .ok (.iload_n 2, 1) := by decide +kernel
theorem dX12_areArguments_28 : decode cX12_areArguments 28 = .ok (.iaload, 1) := by decide +kernel
theorem dX12_areArguments_29 : decode cX12_areArguments 29 = .ok (.bipush 40, 2) := by decide +kernel
theorem dX12_areArguments_31 : decode cX12_areArguments 31 = .ok (.if_icmp .ne 15, 3) := by decide +kernel
theorem dX12_areArguments_34 : decode cX12_areArguments 34 = .ok (.bipush 8, 2) := by decide +kernel
theorem dX12_areArguments_36 : decode cX12_areArguments 36 = .ok (.aload_n 1, 1) := by decide +kernel
theorem dX12_areArguments_37 : decode cX12_areArguments 37 = .ok (.getfield 379, 3) := by decide +kernel
theorem dX12_areArguments_40 : decode cX12_areArguments 40 = .ok (.iload_n 2, 1) := by decide +kernel
theorem dX12_areArguments_41 : decode cX12_areArguments 41 = .ok (.iaload, 1) := by decide +kernel
theorem dX12_areArguments_42 : decode cX12_areArguments 42 = .ok (.iadd, 1) := by decide +kernel
theorem dX12_areArguments_43 : decode cX12_areArguments 43 = .ok (.goto 15, 3) := by decide +kernel
theorem dX12_areArguments_46 : decode cX12_areArguments 46 = .ok (.aload_n 1, 1) := by decide +kernel
theorem dX12_areArguments_47 : decode cX12_areArguments 47 = .ok (.getfield 305, 3) := by decide +kernel
theorem dX12_areArguments_50 : decode cX12_areArguments 50 = .ok (.iload_n 3, 1) := by decide +kernel
theorem dX12_areArguments_51 : decode cX12_areArguments 51 = .ok (.bipush 12, 2) := by decide +kernel
theorem dX12_areArguments_53 : decode cX12_areArguments 53 = .ok (.imul, 1) := by decide +kernel
theorem dX12_areArguments_54 : decode cX12_areArguments 54 = .ok (.iload 5, 2) := by decide +kernel
theorem dX12_areArguments_56 : decode cX12_areArguments 56 = .ok (.iadd, 1) := by decide +kernel
theorem dX12_areArguments_57 : decode cX12_areArguments 57 = .ok (.iaload, 1) := by decide +kernel
theorem dX12_areArguments_58 : decode cX12_areArguments 58 = .ok (.istore 6, 2) := by decide +kernel
theorem dX12_areArguments_60 : decode cX12_areArguments 60 = .ok (.aload_n 1, 1) := by decide +kernel
theorem dX12_areArguments_61 : decode cX12_areArguments 61 = .ok (.aload_n 0, 1) := by decide +kernel
theorem dX12_areArguments_62 : decode cX12_areArguments 62 = .ok (.getfield 61, 3) := by decide +kernel
theorem dX12_areArguments_65 : decode cX12_areArguments 65 = .ok (.aload_n 0, 1) := by decide +kernel
theorem dX12_areArguments_66 : decode cX12_areArguments 66 = .ok (.getfield 451, 3) := by decide +kernel
theorem dX12_areArguments_69 : decode cX12_areArguments 69 = .ok (.iload 4, 2) := by decide +kernel
theorem dX12_areArguments_71 : decode cX12_areArguments 71 = .ok (.isub, 1) := by decide +kernel
theorem dX12_areArguments_72 : decode cX12_areArguments 72 = .ok (.iload 5, 2) := by decide +kernel
theorem dX12_areArguments_74 : decode cX12_areArguments 74 = .ok (.iadd, 1) := by decide +kernel
theorem dX12_areArguments_75 : decode cX12_areArguments 75 = .ok (.iaload, 1) := by decide +kernel
theorem dX12_areArguments_76 : decode cX12_areArguments 76 = .ok (.iload 6, 2) := by decide +kernel
theorem dX12_areArguments_78 : decode cX12_areArguments 78 = .ok (.invokestatic 436, 3) := by decide +kernel
theorem dX12_areArguments_81 : decode cX12_areArguments 81 = .ok (.ifCond .ne 5, 3) := by decide +kernel
theorem dX12_areArguments_84 : decode cX12_areArguments 84 = .ok (.iconst 0, 1) := by decide +kernel
theorem dX12_areArguments_85 : decode cX12_areArguments 85 = .ok (.ireturn, 1) := by decide +kernel
theorem dX12_areArguments_86 : decode cX12_areArguments 86 = .ok (.iinc 5 1, 3) := by decide +kernel
theorem dX12_areArguments_89 : decode cX12_areArguments 89 = .ok (.goto (-78), 3) := by decide +kernel
theorem dX12_areArguments_92 : decode cX12_areArguments 92 = .ok (.iconst 1, 1) := by decide +kernel
theorem dX12_areArguments_93 : decode cX12_areArguments 93 = .ok (.ireturn, 1) := by decide +kernel
theorem dX12_fault_0 : decode cX12_fault 0 = .ok (.aload_n 0, 1) := by decide +kernel
theorem dX12_fault_1 : decode cX12_fault 1 = .ok (.invokevirtual 485, 3) := by decide +kernel
theorem dX12_fault_4 : decode cX12_fault 4 = .ok (.ifCond .ne 13, 3) := by decide +kernel
theorem dX12_fault_7 : decode cX12_fault 7 = .ok (.aload_n 0, 1) := by decide +kernel
theorem dX12_fault_8 : decode cX12_fault 8 = .ok (.aload_n 0, 1) := by decide +kernel
theorem dX12_fault_9 : decode cX12_fault 9 = .ok (.getfield 118, 3) := by decide +kernel
theorem dX12_fault_12 : decode cX12_fault 12 = .ok (.putfield 33, 3) := by decide +kernel
theorem dX12_fault_15 : decode cX12_fault 15 = .ok (.iconst 1, 1) := by decide +kernel
theorem dX12_fault_16 : decode cX12_fault 16 = .ok (.ireturn, 1) := by decide +kernel
theorem dX12_fault_17 : decode cX12_fault 17 = .ok (.aload_n 0, 1) := by decide +kernel
theorem dX12_fault_18 : decode cX12_fault 18 = .ok (.invokevirtual 488, 3) := by decide +kernel
theorem dX12_fault_21 : decode cX12_fault 21 = .ok (.ifCond .ne 13, 3) := by decide +kernel
theorem dX12_fault_24 : decode cX12_fault 24 = .ok (.aload_n 0, 1) := by decide +kernel
theorem dX12_fault_25 : decode cX12_fault 25 = .ok (.aload_n 0, 1) := by decide +kernel
theorem dX12_fault_26 : decode cX12_fault 26 = .ok (.getfield 158, 3) := by decide +kernel
theorem dX12_fault_29 : decode cX12_fault 29 = .ok (.putfield 33, 3) := by decide +kernel
theorem dX12_fault_32 : decode cX12_fault 32 = .ok (.iconst 2, 1) := by decide +kernel
theorem dX12_fault_33 : decode cX12_fault 33 = .ok (.ireturn, 1) := by decide +kernel
theorem dX12_fault_34 : decode cX12_fault 34 = .ok (.aload_n 0, 1) := by decide +kernel
theorem dX12_fault_35 : decode cX12_fault 35 = .ok (.aload_n 1, 1) := by decide +kernel
theorem dX12_fault_36 : decode cX12_fault 36 = .ok (.invokevirtual 491, 3) := by decide +kernel
theorem dX12_fault_39 : decode cX12_fault 39 = .ok (.ifCond .eq 27, 3) := by decide +kernel
theorem dX12_fault_42 : decode cX12_fault 42 = .ok (.aload_n 0, 1) := by decide +kernel
theorem dX12_fault_43 : decode cX12_fault 43 = .ok (.aload_n 1, 1) := by decide +kernel
theorem dX12_fault_44 : decode cX12_fault 44 = .ok (.invokevirtual 495, 3) := by decide +kernel
theorem dX12_fault_47 : decode cX12_fault 47 = .ok (.ifCond .eq 19, 3) := by decide +kernel
theorem dX12_fault_50 : decode cX12_fault 50 = .ok (.aload_n 0, 1) := by decide +kernel
theorem dX12_fault_51 : decode cX12_fault 51 = .ok (.aload_n 1, 1) := by decide +kernel
theorem dX12_fault_52 : decode cX12_fault 52 = .ok (.invokevirtual 498, 3) := by decide +kernel
theorem dX12_fault_55 : decode cX12_fault 55 = .ok (.ifCond .eq 11, 3) := by decide +kernel
theorem dX12_fault_58 : decode cX12_fault 58 = .ok (.aload_n 0, 1) := by decide +kernel
theorem dX12_fault_59 : decode cX12_fault 59 = .ok (.aload_n 1, 1) := by decide +kernel
theorem dX12_fault_60 : decode cX12_fault 60 = .ok (.invokevirtual 501, 3) := by decide +kernel
theorem dX12_fault_63 : decode cX12_fault 63 = .ok (.ifCond .ne 5, 3) := by decide +kernel
theorem dX12_fault_66 : decode cX12_fault 66 = .ok (.iconst 3, 1) := by decide +kernel
theorem dX12_fault_67 : decode cX12_fault 67 = .ok (.ireturn, 1) := by decide +kernel
theorem dX12_fault_68 : decode cX12_fault 68 = .ok (.iconst 0, 1) := by decide +kernel
theorem dX12_fault_69 : decode cX12_fault 69 = .ok (.istore_n 2, 1) := by decide +kernel
theorem dX12_fault_70 : decode cX12_fault 70 = .ok (.iload_n 2, 1) := by decide +kernel
theorem dX12_fault_71 : decode cX12_fault 71 = .ok (.aload_n 1, 1) := by decide +kernel
theorem dX12_fault_72 : decode cX12_fault 72 = .ok (.getfield 267, 3) := by decide +kernel
theorem dX12_fault_75 : decode cX12_fault 75 = .ok (.if_icmp .ge 29, 3) := by decide +kernel
theorem dX12_fault_78 : decode cX12_fault 78 = .ok (.aload_n 0, 1) := by decide +kernel
theorem dX12_fault_79 : decode cX12_fault 79 = .ok (.aload_n 1, 1) := by decide +kernel
theorem dX12_fault_80 : decode cX12_fault 80 = .ok (.iload_n 2, 1) := by decide +kernel
theorem dX12_fault_81 : decode cX12_fault 81 = .ok (.invokevirtual 504, 3) := by decide +kernel
theorem dX12_fault_84 : decode cX12_fault 84 = .ok (.ifCond .eq 12, 3) := by decide +kernel
theorem dX12_fault_87 : decode cX12_fault 87 = .ok (.aload_n 0, 1) := by decide +kernel
theorem dX12_fault_88 : decode cX12_fault 88 = .ok (.aload_n 1, 1) := by decide +kernel
theorem dX12_fault_89 : decode cX12_fault 89 = .ok (.iload_n 2, 1) := by decide +kernel
theorem dX12_fault_90 : decode cX12_fault 90 = .ok (.invokevirtual 506, 3) := by decide +kernel
theorem dX12_fault_93 : decode cX12_fault 93 = .ok (.ifCond .ne 5, 3) := by decide +kernel
theorem dX12_fault_96 : decode cX12_fault 96 = .ok (.iconst 4, 1) := by decide +kernel
theorem dX12_fault_97 : decode cX12_fault 97 = .ok (.ireturn, 1) := by decide +kernel
theorem dX12_fault_98 : decode cX12_fault 98 = .ok (.iinc 2 1, 3) := by decide +kernel
theorem dX12_fault_101 : decode cX12_fault 101 = .ok (.goto (-31), 3) := by decide +kernel
theorem dX12_fault_104 : decode cX12_fault 104 = .ok (.aload_n 0, 1) := by decide +kernel
theorem dX12_fault_105 : decode cX12_fault 105 = .ok (.iconst (-1), 1) := by decide +kernel
theorem dX12_fault_106 : decode cX12_fault 106 = .ok (.putfield 33, 3) := by decide +kernel
theorem dX12_fault_109 : decode cX12_fault 109 = .ok (.iconst 0, 1) := by decide +kernel
theorem dX12_fault_110 : decode cX12_fault 110 = .ok (.ireturn, 1) := by decide +kernel
theorem dX12_load_0 : decode cX12_load 0 = .ok (.aload_n 0, 1) := by decide +kernel
theorem dX12_load_1 : decode cX12_load 1 = .ok (.aload_n 0, 1) := by decide +kernel
theorem dX12_load_2 : decode cX12_load 2 = .ok (.getfield 16, 3) := by decide +kernel
theorem dX12_load_5 : decode cX12_load 5 = .ok (.invokevirtual 508, 3) := by decide +kernel
theorem dX12_load_8 : decode cX12_load 8 = .ok (.istore_n 1, 1) := by decide +kernel
theorem dX12_load_9 : decode cX12_load 9 = .ok (.aload_n 0, 1) := by decide +kernel
theorem dX12_load_10 : decode cX12_load 10 = .ok (.iconst 0, 1) := by decide +kernel
theorem dX12_load_11 : decode cX12_load 11 = .ok (.putfield 115, 3) := by decide +kernel
theorem dX12_load_14 : decode cX12_load 14 = .ok (.iload_n 1, 1) := by decide +kernel
theorem dX12_load_15 : decode cX12_load 15 = .ok (.ifCond .le 5, 3) := by decide +kernel
theorem dX12_load_18 : decode cX12_load 18 = .ok (.iload_n 1, 1) := by decide +kernel
theorem dX12_load_19 : decode cX12_load 19 = .ok (.ireturn, 1) := by decide +kernel
theorem dX12_load_20 : decode cX12_load 20 = .ok (.aload_n 0, 1) := by decide +kernel
theorem dX12_load_21 : decode cX12_load 21 = .ok (.getfield 10, 3) := by decide +kernel
theorem dX12_load_24 : decode cX12_load 24 = .ok (.astore_n 2, 1) := by decide +kernel
theorem dX12_load_25 : decode cX12_load 25 = .ok (.aload_n 0, 1) := by decide +kernel
theorem dX12_load_26 : decode cX12_load 26 = .ok (.aload_n 0, 1) := by decide +kernel
theorem dX12_load_27 : decode cX12_load 27 = .ok (.getfield 16, 3) := by decide +kernel
theorem dX12_load_30 : decode cX12_load 30 = .ok (.putfield 10, 3) := by decide +kernel
theorem dX12_load_33 : decode cX12_load 33 = .ok (.aload_n 0, 1) := by decide +kernel
theorem dX12_load_34 : decode cX12_load 34 = .ok (.aload_n 2, 1) := by decide +kernel
theorem dX12_load_35 : decode cX12_load 35 = .ok (.putfield 16, 3) := by decide +kernel
theorem dX12_load_38 : decode cX12_load 38 = .ok (.aload_n 0, 1) := by decide +kernel
theorem dX12_load_39 : decode cX12_load 39 = .ok (.iconst 1, 1) := by decide +kernel
theorem dX12_load_40 : decode cX12_load 40 = .ok (.putfield 511, 3) := by decide +kernel
theorem dX12_load_43 : decode cX12_load 43 = .ok (.iconst 0, 1) := by decide +kernel
theorem dX12_load_44 : decode cX12_load 44 = .ok (.ireturn, 1) := by decide +kernel
theorem dX12_faultAt_0 : decode cX12_faultAt 0 = .ok (.aload_n 0, 1) := by decide +kernel
theorem dX12_faultAt_1 : decode cX12_faultAt 1 = .ok (.getfield 33, 3) := by decide +kernel
theorem dX12_faultAt_4 : decode cX12_faultAt 4 = .ok (.ireturn, 1) := by decide +kernel
theorem dX12_size_0 : decode cX12_size 0 = .ok (.aload_n 0, 1) := by decide +kernel
theorem dX12_size_1 : decode cX12_size 1 = .ok (.getfield 511, 3) := by decide +kernel
theorem dX12_size_4 : decode cX12_size 4 = .ok (.ifCond .ne 5, 3) := by decide +kernel
theorem dX12_size_7 : decode cX12_size 7 = .ok (.iconst (-1), 1) := by decide +kernel
theorem dX12_size_8 : decode cX12_size 8 = .ok (.ireturn, 1) := by decide +kernel
theorem dX12_size_9 : decode cX12_size 9 = .ok (.iload_n 1, 1) := by decide +kernel
theorem dX12_size_10 : decode cX12_size 10 = .ok (.ifCond .ne 13, 3) := by decide +kernel
theorem dX12_size_13 : decode cX12_size 13 = .ok (.aload_n 0, 1) := by decide +kernel
theorem dX12_size_14 : decode cX12_size 14 = .ok (.getfield 10, 3) := by decide +kernel
theorem dX12_size_17 : decode cX12_size 17 = .ok (.getfield 318, 3) := by decide +kernel
theorem dX12_size_20 : decode cX12_size 20 = .ok (.goto 79, 3) := by decide +kernel
theorem dX12_size_23 : decode cX12_size 23 = .ok (.iload_n 1, 1) := by decide +kernel
theorem dX12_size_24 : decode cX12_size 24 = .ok (.iconst 1, 1) := by decide +kernel
theorem dX12_size_25 : decode cX12_size 25 = .ok (.if_icmp .ne 13, 3) := by decide +kernel
theorem dX12_size_28 : decode cX12_size 28 = .ok (.aload_n 0, 1) := by decide +kernel
theorem dX12_size_29 : decode cX12_size 29 = .ok (.getfield 10, 3) := by decide +kernel
theorem dX12_size_32 : decode cX12_size 32 = .ok (.getfield 321, 3) := by decide +kernel
theorem dX12_size_35 : decode cX12_size 35 = .ok (.goto 64, 3) := by decide +kernel
theorem dX12_size_38 : decode cX12_size 38 = .ok (.iload_n 1, 1) := by decide +kernel
theorem dX12_size_39 : decode cX12_size 39 = .ok (.iconst 2, 1) := by decide +kernel
theorem dX12_size_40 : decode cX12_size 40 = .ok (.if_icmp .ne 13, 3) := by decide +kernel
theorem dX12_size_43 : decode cX12_size 43 = .ok (.aload_n 0, 1) := by decide +kernel
theorem dX12_size_44 : decode cX12_size 44 = .ok (.getfield 10, 3) := by decide +kernel
theorem dX12_size_47 : decode cX12_size 47 = .ok (.getfield 267, 3) := by decide +kernel
theorem dX12_size_50 : decode cX12_size 50 = .ok (.goto 49, 3) := by decide +kernel
theorem dX12_size_53 : decode cX12_size 53 = .ok (.iload_n 1, 1) := by decide +kernel
theorem dX12_size_54 : decode cX12_size 54 = .ok (.iconst 3, 1) := by decide +kernel
theorem dX12_size_55 : decode cX12_size 55 = .ok (.if_icmp .ne 13, 3) := by decide +kernel
theorem dX12_size_58 : decode cX12_size 58 = .ok (.aload_n 0, 1) := by decide +kernel
theorem dX12_size_59 : decode cX12_size 59 = .ok (.getfield 10, 3) := by decide +kernel
theorem dX12_size_62 : decode cX12_size 62 = .ok (.getfield 257, 3) := by decide +kernel
theorem dX12_size_65 : decode cX12_size 65 = .ok (.goto 34, 3) := by decide +kernel
theorem dX12_size_68 : decode cX12_size 68 = .ok (.iload_n 1, 1) := by decide +kernel
theorem dX12_size_69 : decode cX12_size 69 = .ok (.iconst 4, 1) := by decide +kernel
theorem dX12_size_70 : decode cX12_size 70 = .ok (.if_icmp .ne 13, 3) := by decide +kernel
theorem dX12_size_73 : decode cX12_size 73 = .ok (.aload_n 0, 1) := by decide +kernel
theorem dX12_size_74 : decode cX12_size 74 = .ok (.getfield 10, 3) := by decide +kernel
theorem dX12_size_77 : decode cX12_size 77 = .ok (.getfield 231, 3) := by decide +kernel
theorem dX12_size_80 : decode cX12_size 80 = .ok (.goto 19, 3) := by decide +kernel
theorem dX12_size_83 : decode cX12_size 83 = .ok (.iload_n 1, 1) := by decide +kernel
theorem dX12_size_84 : decode cX12_size 84 = .ok (.iconst 5, 1) := by decide +kernel
theorem dX12_size_85 : decode cX12_size 85 = .ok (.if_icmp .ne 13, 3) := by decide +kernel
theorem dX12_size_88 : decode cX12_size 88 = .ok (.aload_n 0, 1) := by decide +kernel
theorem dX12_size_89 : decode cX12_size 89 = .ok (.getfield 10, 3) := by decide +kernel
theorem dX12_size_92 : decode cX12_size 92 = .ok (.getfield 324, 3) := by decide +kernel
theorem dX12_size_95 : decode cX12_size 95 = .ok (.goto 4, 3) := by decide +kernel
theorem dX12_size_98 : decode cX12_size 98 = .ok (.iconst (-1), 1) := by decide +kernel
theorem dX12_size_99 : decode cX12_size 99 = .ok (.ireturn, 1) := by decide +kernel
theorem dX12_height_0 : decode cX12_height 0 = .ok (.aload_n 0, 1) := by decide +kernel
theorem dX12_height_1 : decode cX12_height 1 = .ok (.getfield 511, 3) := by decide +kernel
theorem dX12_height_4 : decode cX12_height 4 = .ok (.ifCond .eq 30, 3) := by decide +kernel
theorem dX12_height_7 : decode cX12_height 7 = .ok (.iload_n 1, 1) := by decide +kernel
theorem dX12_height_8 : decode cX12_height 8 = .ok (.ifCond .lt 26, 3) := by decide +kernel
theorem dX12_height_11 : decode cX12_height 11 = .ok (.iload_n 1, 1) := by decide +kernel
theorem dX12_height_12 : decode cX12_height 12 = .ok (.aload_n 0, 1) := by decide +kernel
theorem dX12_height_13 : decode cX12_height 13 = .ok (.getfield 10, 3) := by decide +kernel
theorem dX12_height_16 : decode cX12_height 16 = .ok (.getfield 318, 3) := by decide +kernel
theorem dX12_height_19 : decode cX12_height 19 = .ok (.if_icmp .ge 15, 3) := by decide +kernel
theorem dX12_height_22 : decode cX12_height 22 = .ok (.aload_n 0, 1) := by decide +kernel
theorem dX12_height_23 : decode cX12_height 23 = .ok (.getfield 10, 3) := by decide +kernel
theorem dX12_height_26 : decode cX12_height 26 = .ok (.getfield 424, 3) := by decide +kernel
theorem dX12_height_29 : decode cX12_height 29 = .ok (.iload_n 1, 1) := by decide +kernel
theorem dX12_height_30 : decode cX12_height 30 = .ok (.iaload, 1) := by decide +kernel
theorem dX12_height_31 : decode cX12_height 31 = .ok (.goto 4, 3) := by decide +kernel
theorem dX12_height_34 : decode cX12_height 34 = .ok (.iconst (-1), 1) := by decide +kernel
theorem dX12_height_35 : decode cX12_height 35 = .ok (.ireturn, 1) := by decide +kernel
theorem dX12_input_0 : decode cX12_input 0 = .ok (.aload_n 0, 1) := by decide +kernel
theorem dX12_input_1 : decode cX12_input 1 = .ok (.getfield 515, 3) := by decide +kernel
theorem dX12_input_4 : decode cX12_input 4 = .ok (.sipush 256, 3) := by decide +kernel
theorem dX12_input_7 : decode cX12_input 7 = .ok (.if_icmp .ne 5, 3) := by decide +kernel
theorem dX12_input_10 : decode cX12_input 10 = .ok (.iconst 0, 1) := by decide +kernel
theorem dX12_input_11 : decode cX12_input 11 = .ok (.ireturn, 1) := by decide +kernel
theorem dX12_input_12 : decode cX12_input 12 = .ok (.aload_n 0, 1) := by decide +kernel
theorem dX12_input_13 : decode cX12_input 13 = .ok (.getfield 92, 3) := by decide +kernel
theorem dX12_input_16 : decode cX12_input 16 = .ok (.aload_n 0, 1) := by decide +kernel
theorem dX12_input_17 : decode cX12_input 17 = .ok (.getfield 515, 3) := by decide +kernel
theorem dX12_input_20 : decode cX12_input 20 = .ok (.iload_n 1, 1) := by decide +kernel
theorem dX12_input_21 : decode cX12_input 21 = .ok (.iastore, 1) := by decide +kernel
theorem dX12_input_22 : decode cX12_input 22 = .ok (.aload_n 0, 1) := by decide +kernel
theorem dX12_input_23 : decode cX12_input 23 = .ok (.dup, 1) := by decide +kernel
theorem dX12_input_24 : decode cX12_input 24 = .ok (.getfield 515, 3) := by decide +kernel
theorem dX12_input_27 : decode cX12_input 27 = .ok (.iconst 1, 1) := by decide +kernel
theorem dX12_input_28 : decode cX12_input 28 = .ok (.iadd, 1) := by decide +kernel
theorem dX12_input_29 : decode cX12_input 29 = .ok (.putfield 515, 3) := by decide +kernel
theorem dX12_input_32 : decode cX12_input 32 = .ok (.iconst 1, 1) := by decide +kernel
theorem dX12_input_33 : decode cX12_input 33 = .ok (.ireturn, 1) := by decide +kernel
theorem dX12_run_0 : decode cX12_run 0 = .ok (.aload_n 0, 1) := by decide +kernel
theorem dX12_run_1 : decode cX12_run 1 = .ok (.getfield 511, 3) := by decide +kernel
theorem dX12_run_4 : decode cX12_run 4 = .ok (.ifCond .eq 14, 3) := by decide +kernel
theorem dX12_run_7 : decode cX12_run 7 = .ok (.iload_n 1, 1) := by decide +kernel
theorem dX12_run_8 : decode cX12_run 8 = .ok (.ifCond .lt 10, 3) := by decide +kernel
theorem dX12_run_11 : decode cX12_run 11 = .ok (.iload_n 1, 1) := by decide +kernel
theorem dX12_run_12 : decode cX12_run 12 = .ok (.sipush 20000, 3) := by decide +kernel
theorem dX12_run_15 : decode cX12_run 15 = .ok (.if_icmp .le 5, 3) := by decide +kernel
theorem dX12_run_18 : decode cX12_run 18 = .ok (.iconst (-1), 1) := by decide +kernel
theorem dX12_run_19 : decode cX12_run 19 = .ok (.ireturn, 1) := by decide +kernel
theorem dX12_run_20 : decode cX12_run 20 = .ok (.aload_n 0, 1) := by decide +kernel
theorem dX12_run_21 : decode cX12_run 21 = .ok (.iconst 0, 1) := by decide +kernel
theorem dX12_run_22 : decode cX12_run 22 = .ok (.putfield 518, 3) := by decide +kernel
theorem dX12_run_25 : decode cX12_run 25 = .ok (.aload_n 0, 1) := by decide +kernel
theorem dX12_run_26 : decode cX12_run 26 = .ok (.iconst 0, 1) := by decide +kernel
theorem dX12_run_27 : decode cX12_run 27 = .ok (.putfield 521, 3) := by decide +kernel
theorem dX12_run_30 : decode cX12_run 30 = .ok (.aload_n 0, 1) := by decide +kernel
theorem dX12_run_31 : decode cX12_run 31 = .ok (.iconst 0, 1) := by decide +kernel
theorem dX12_run_32 : decode cX12_run 32 = .ok (.putfield 524, 3) := by decide +kernel
theorem dX12_run_35 : decode cX12_run 35 = .ok (.aload_n 0, 1) := by decide +kernel
theorem dX12_run_36 : decode cX12_run 36 = .ok (.iconst 0, 1) := by decide +kernel
theorem dX12_run_37 : decode cX12_run 37 = .ok (.putfield 527, 3) := by decide +kernel
theorem dX12_run_40 : decode cX12_run 40 = .ok (.aload_n 0, 1) := by decide +kernel
theorem dX12_run_41 : decode cX12_run 41 = .ok (.iconst 0, 1) := by decide +kernel
theorem dX12_run_42 : decode cX12_run 42 = .ok (.putfield 530, 3) := by decide +kernel
theorem dX12_run_45 : decode cX12_run 45 = .ok (.aload_n 0, 1) := by decide +kernel
theorem dX12_run_46 : decode cX12_run 46 = .ok (.iconst (-1), 1) := by decide +kernel
theorem dX12_run_47 : decode cX12_run 47 = .ok (.putfield 101, 3) := by decide +kernel
theorem dX12_run_50 : decode cX12_run 50 = .ok (.aload_n 0, 1) := by decide +kernel
theorem dX12_run_51 : decode cX12_run 51 = .ok (.iconst 0, 1) := by decide +kernel
theorem dX12_run_52 : decode cX12_run 52 = .ok (.putfield 533, 3) := by decide +kernel
theorem dX12_run_55 : decode cX12_run 55 = .ok (.aload_n 0, 1) := by decide +kernel
theorem dX12_run_56 : decode cX12_run 56 = .ok (.iconst (-1), 1) := by decide +kernel
theorem dX12_run_57 : decode cX12_run 57 = .ok (.putfield 536, 3) := by decide +kernel
theorem dX12_run_60 : decode cX12_run 60 = .ok (.aload_n 0, 1) := by decide +kernel
theorem dX12_run_61 : decode cX12_run 61 = .ok (.aload_n 0, 1) := by decide +kernel
theorem dX12_run_62 : decode cX12_run 62 = .ok (.getfield 10, 3) := by decide +kernel
theorem dX12_run_65 : decode cX12_run 65 = .ok (.getfield 403, 3) := by decide +kernel
theorem dX12_run_68 : decode cX12_run 68 = .ok (.invokevirtual 539, 3) := by decide +kernel
theorem dX12_run_71 : decode cX12_run 71 = .ok (.aload_n 0, 1) := by decide +kernel
theorem dX12_run_72 : decode cX12_run 72 = .ok (.getfield 536, 3) := by decide +kernel
theorem dX12_run_75 : decode cX12_run 75 = .ok (.ifCond .ge 72, 3) := by decide +kernel
theorem dX12_run_78 : decode cX12_run 78 = .ok (.aload_n 0, 1) := by decide +kernel
theorem dX12_run_79 : decode cX12_run 79 = .ok (.getfield 74, 3) := by decide +kernel
theorem dX12_run_82 : decode cX12_run 82 = .ok (.aload_n 0, 1) := by decide +kernel
theorem dX12_run_83 : decode cX12_run 83 = .ok (.getfield 533, 3) := by decide +kernel
theorem dX12_run_86 : decode cX12_run 86 = .ok (.iconst 1, 1) := by decide +kernel
theorem dX12_run_87 : decode cX12_run 87 = .ok (.isub, 1) := by decide +kernel
theorem dX12_run_88 : decode cX12_run 88 = .ok (.iaload, 1) := by decide +kernel
theorem dX12_run_89 : decode cX12_run 89 = .ok (.istore_n 2, 1) := by decide +kernel
theorem dX12_run_90 : decode cX12_run 90 = .ok (.aload_n 0, 1) := by decide +kernel
theorem dX12_run_91 : decode cX12_run 91 = .ok (.getfield 530, 3) := by decide +kernel
theorem dX12_run_94 : decode cX12_run 94 = .ok (.iload_n 1, 1) := by decide +kernel
theorem dX12_run_95 : decode cX12_run 95 = .ok (.if_icmp .ne 16, 3) := by decide +kernel
theorem dX12_run_98 : decode cX12_run 98 = .ok (.aload_n 0, 1) := by decide +kernel
theorem dX12_run_99 : decode cX12_run 99 = .ok (.iconst 2, 1) := by decide +kernel
theorem dX12_run_100 : decode cX12_run 100 = .ok (.putfield 536, 3) := by decide +kernel
theorem dX12_run_103 : decode cX12_run 103 = .ok (.aload_n 0, 1) := by decide +kernel
theorem dX12_run_104 : decode cX12_run 104 = .ok (.iload_n 2, 1) := by decide +kernel
theorem dX12_run_105 : decode cX12_run 105 = .ok (.putfield 98, 3) := by decide +kernel
theorem dX12_run_108 : decode cX12_run 108 = .ok (.goto 36, 3) := by decide +kernel
theorem dX12_run_111 : decode cX12_run 111 = .ok (.aload_n 0, 1) := by decide +kernel
theorem dX12_run_112 : decode cX12_run 112 = .ok (.dup, 1) := by decide +kernel
theorem dX12_run_113 : decode cX12_run 113 = .ok (.getfield 530, 3) := by decide +kernel
theorem dX12_run_116 : decode cX12_run 116 = .ok (.iconst 1, 1) := by decide +kernel
theorem dX12_run_117 : decode cX12_run 117 = .ok (.iadd, 1) := by decide +kernel
theorem dX12_run_118 : decode cX12_run 118 = .ok (.putfield 530, 3) := by decide +kernel
theorem dX12_run_121 : decode cX12_run 121 = .ok (.aload_n 0, 1) := by decide +kernel
theorem dX12_run_122 : decode cX12_run 122 = .ok (.iload_n 2, 1) := by decide +kernel
theorem dX12_run_123 : decode cX12_run 123 = .ok (.invokevirtual 542, 3) := by decide +kernel
theorem dX12_run_126 : decode cX12_run 126 = .ok (.ifCond .ne 13, 3) := by decide +kernel
theorem dX12_run_129 : decode cX12_run 129 = .ok (.aload_n 0, 1) := by decide +kernel
theorem dX12_run_130 : decode cX12_run 130 = .ok (.dup, 1) := by decide +kernel
theorem dX12_run_131 : decode cX12_run 131 = .ok (.getfield 545, 3) := by decide +kernel
theorem dX12_run_134 : decode cX12_run 134 = .ok (.iconst 1, 1) := by decide +kernel
theorem dX12_run_135 : decode cX12_run 135 = .ok (.iadd, 1) := by decide +kernel
theorem dX12_run_136 : decode cX12_run 136 = .ok (.putfield 545, 3) := by decide +kernel
theorem dX12_run_139 : decode cX12_run 139 = .ok (.aload_n 0, 1) := by decide +kernel
theorem dX12_run_140 : decode cX12_run 140 = .ok (.iload_n 2, 1) := by decide +kernel
theorem dX12_run_141 : decode cX12_run 141 = .ok (.invokevirtual 548, 3) := by decide +kernel
theorem dX12_run_144 : decode cX12_run 144 = .ok (.goto (-73), 3) := by decide +kernel
theorem dX12_run_147 : decode cX12_run 147 = .ok (.aload_n 0, 1) := by decide +kernel
theorem dX12_run_148 : decode cX12_run 148 = .ok (.iconst 0, 1) := by decide +kernel
theorem dX12_run_149 : decode cX12_run 149 = .ok (.putfield 515, 3) := by decide +kernel
theorem dX12_run_152 : decode cX12_run 152 = .ok (.aload_n 0, 1) := by decide +kernel
theorem dX12_run_153 : decode cX12_run 153 = .ok (.getfield 536, 3) := by decide +kernel
theorem dX12_run_156 : decode cX12_run 156 = .ok (.ireturn, 1) := by decide +kernel
theorem dX12_enter_0 : decode cX12_enter 0 = .ok (.iconst 0, 1) := by decide +kernel
theorem dX12_enter_1 : decode cX12_enter 1 = .ok (.istore_n 2, 1) := by decide +kernel
theorem dX12_enter_2 : decode cX12_enter 2 = .ok (.iload_n 2, 1) := by decide +kernel
theorem dX12_enter_3 : decode cX12_enter 3 = .ok (.bipush 12, 2) := by decide +kernel
theorem dX12_enter_5 : decode cX12_enter 5 = .ok (.if_icmp .ge 26, 3) := by decide +kernel
theorem dX12_enter_8 : decode cX12_enter 8 = .ok (.aload_n 0, 1) := by decide +kernel
theorem dX12_enter_9 : decode cX12_enter 9 = .ok (.getfield 64, 3) := by decide +kernel
theorem dX12_enter_12 : decode cX12_enter 12 = .ok (.aload_n 0, 1) := by decide +kernel
theorem dX12_enter_13 : decode cX12_enter 13 = .ok (.getfield 533, 3) := by decide +kernel
theorem dX12_enter_16 : decode cX12_enter 16 = .ok (.bipush 12, 2) := by decide +kernel
theorem dX12_enter_18 : decode cX12_enter 18 = .ok (.imul, 1) := by decide +kernel
theorem dX12_enter_19 : decode cX12_enter 19 = .ok (.iload_n 2, 1) := by decide +kernel
theorem dX12_enter_20 : decode cX12_enter 20 = .ok (.iadd, 1) := by decide +kernel
theorem dX12_enter_21 : decode cX12_enter 21 = .ok (.ldc2_w 551, 3) := by decide +kernel
theorem dX12_enter_24 : decode cX12_enter 24 = .ok (.lastore, 1) := by decide +kernel
theorem dX12_enter_25 : decode cX12_enter 25 = .ok (.iinc 2 1, 3) := by decide +kernel
theorem dX12_enter_28 : decode cX12_enter 28 = .ok (.goto (-26), 3) := by decide +kernel
theorem dX12_enter_31 : decode cX12_enter 31 = .ok (.aload_n 0, 1) := by decide +kernel
theorem dX12_enter_32 : decode cX12_enter 32 = .ok (.getfield 71, 3) := by decide +kernel
theorem dX12_enter_35 : decode cX12_enter 35 = .ok (.aload_n 0, 1) := by decide +kernel
theorem dX12_enter_36 : decode cX12_enter 36 = .ok (.getfield 533, 3) := by decide +kernel
theorem dX12_enter_39 : decode cX12_enter 39 = .ok (.iconst 0, 1) := by decide +kernel
theorem dX12_enter_40 : decode cX12_enter 40 = .ok (.iastore, 1) := by decide +kernel
theorem dX12_enter_41 : decode cX12_enter 41 = .ok (.aload_n 0, 1) := by decide +kernel
theorem dX12_enter_42 : decode cX12_enter 42 = .ok (.getfield 74, 3) := by decide +kernel
theorem dX12_enter_45 : decode cX12_enter 45 = .ok (.aload_n 0, 1) := by decide +kernel
theorem dX12_enter_46 : decode cX12_enter 46 = .ok (.getfield 533, 3) := by decide +kernel
theorem dX12_enter_49 : decode cX12_enter 49 = .ok (.aload_n 0, 1) := by decide +kernel
theorem dX12_enter_50 : decode cX12_enter 50 = .ok (.getfield 10, 3) := by decide +kernel
theorem dX12_enter_53 : decode cX12_enter 53 = .ok (.getfield 331, 3) := by decide +kernel
theorem dX12_enter_56 : decode cX12_enter 56 = .ok (.iload_n 1, 1) := by decide +kernel
theorem dX12_enter_57 : decode cX12_enter 57 = .ok (.iaload, 1) := by decide +kernel
theorem dX12_enter_58 : decode cX12_enter 58 = .ok (.iastore, 1) := by decide +kernel
theorem dX12_enter_59 : decode cX12_enter 59 = .ok (.aload_n 0, 1) := by decide +kernel
theorem dX12_enter_60 : decode cX12_enter 60 = .ok (.dup, 1) := by decide +kernel
theorem dX12_enter_61 : decode cX12_enter 61 = .ok (.getfield 533, 3) := by decide +kernel
theorem dX12_enter_64 : decode cX12_enter 64 = .ok (.iconst 1, 1) := by decide +kernel
theorem dX12_enter_65 : decode cX12_enter 65 = .ok (.iadd, 1) := by decide +kernel
theorem dX12_enter_66 : decode cX12_enter 66 = .ok (.putfield 533, 3) := by decide +kernel
theorem dX12_enter_69 : decode cX12_enter 69 = .ok (.return_, 1) := by decide +kernel
theorem dX12_local_0 : decode cX12_local 0 = .ok (.aload_n 0, 1) := by decide +kernel
theorem dX12_local_1 : decode cX12_local 1 = .ok (.getfield 64, 3) := by decide +kernel
theorem dX12_local_4 : decode cX12_local 4 = .ok (.aload_n 0, 1) := by decide +kernel
theorem dX12_local_5 : decode cX12_local 5 = .ok (.getfield 533, 3) := by decide +kernel
theorem dX12_local_8 : decode cX12_local 8 = .ok (.iconst 1, 1) := by decide +kernel
theorem dX12_local_9 : decode cX12_local 9 = .ok (.isub, 1) := by decide +kernel
theorem dX12_local_10 : decode cX12_local 10 = .ok (.bipush 12, 2) := by decide +kernel
theorem dX12_local_12 : decode cX12_local 12 = .ok (.imul, 1) := by decide +kernel
theorem dX12_local_13 : decode cX12_local 13 = .ok (.iload_n 1, 1) := by decide +kernel
theorem dX12_local_14 : decode cX12_local 14 = .ok (.iadd, 1) := by decide +kernel
theorem dX12_local_15 : decode cX12_local 15 = .ok (.laload, 1) := by decide +kernel
theorem dX12_local_16 : decode cX12_local 16 = .ok (.lreturn, 1) := by decide +kernel
theorem dX12_pop_0 : decode cX12_pop 0 = .ok (.aload_n 0, 1) := by decide +kernel
theorem dX12_pop_1 : decode cX12_pop 1 = .ok (.getfield 71, 3) := by decide +kernel
theorem dX12_pop_4 : decode cX12_pop 4 = .ok (.aload_n 0, 1) := by decide +kernel
theorem dX12_pop_5 : decode cX12_pop 5 = .ok (.getfield 533, 3) := by decide +kernel
theorem dX12_pop_8 : decode cX12_pop 8 = .ok (.iconst 1, 1) := by decide +kernel
theorem dX12_pop_9 : decode cX12_pop 9 = .ok (.isub, 1) := by decide +kernel
theorem dX12_pop_10 : decode cX12_pop 10 = .ok (.dup2, 1) := by decide +kernel
theorem dX12_pop_11 : decode cX12_pop 11 = .ok (.iaload, 1) := by decide +kernel
theorem dX12_pop_12 : decode cX12_pop 12 = .ok (.iconst 1, 1) := by decide +kernel
theorem dX12_pop_13 : decode cX12_pop 13 = .ok (.isub, 1) := by decide +kernel
theorem dX12_pop_14 : decode cX12_pop 14 = .ok (.iastore, 1) := by decide +kernel
theorem dX12_pop_15 : decode cX12_pop 15 = .ok (.aload_n 0, 1) := by decide +kernel
theorem dX12_pop_16 : decode cX12_pop 16 = .ok (.getfield 68, 3) := by decide +kernel
theorem dX12_pop_19 : decode cX12_pop 19 = .ok (.aload_n 0, 1) := by decide +kernel
theorem dX12_pop_20 : decode cX12_pop 20 = .ok (.getfield 533, 3) := by decide +kernel
theorem dX12_pop_23 : decode cX12_pop 23 = .ok (.iconst 1, 1) := by decide +kernel
theorem dX12_pop_24 : decode cX12_pop 24 = .ok (.isub, 1) := by decide +kernel
theorem dX12_pop_25 : decode cX12_pop 25 = .ok (.bipush 8, 2) := by decide +kernel
theorem dX12_pop_27 : decode cX12_pop 27 = .ok (.imul, 1) := by decide +kernel
theorem dX12_pop_28 : decode cX12_pop 28 = .ok (.aload_n 0, 1) := by decide +kernel
theorem dX12_pop_29 : decode cX12_pop 29 = .ok (.getfield 71, 3) := by decide +kernel
theorem dX12_pop_32 : decode cX12_pop 32 = .ok (.aload_n 0, 1) := by decide +kernel
theorem dX12_pop_33 : decode cX12_pop 33 = .ok (.getfield 533, 3) := by decide +kernel
theorem dX12_pop_36 : decode cX12_pop 36 = .ok (.iconst 1, 1) := by decide +kernel
theorem dX12_pop_37 : decode cX12_pop 37 = .ok (.isub, 1) := by decide +kernel
theorem dX12_pop_38 : decode cX12_pop 38 = .ok (.iaload, 1) := by decide +kernel
theorem dX12_pop_39 : decode cX12_pop 39 = .ok (.iadd, 1) := by decide +kernel
theorem dX12_pop_40 : decode cX12_pop 40 = .ok (.laload, 1) := by decide +kernel
theorem dX12_pop_41 : decode cX12_pop 41 = .ok (.lreturn, 1) := by decide +kernel
theorem dX12_push_0 : decode cX12_push 0 = .ok (.aload_n 0, 1) := by decide +kernel
theorem dX12_push_1 : decode cX12_push 1 = .ok (.getfield 68, 3) := by decide +kernel
theorem dX12_push_4 : decode cX12_push 4 = .ok (.aload_n 0, 1) := by decide +kernel
theorem dX12_push_5 : decode cX12_push 5 = .ok (.getfield 533, 3) := by decide +kernel
theorem dX12_push_8 : decode cX12_push 8 = .ok (.iconst 1, 1) := by decide +kernel
theorem dX12_push_9 : decode cX12_push 9 = .ok (.isub, 1) := by decide +kernel
theorem dX12_push_10 : decode cX12_push 10 = .ok (.bipush 8, 2) := by decide +kernel
theorem dX12_push_12 : decode cX12_push 12 = .ok (.imul, 1) := by decide +kernel
theorem dX12_push_13 : decode cX12_push 13 = .ok (.aload_n 0, 1) := by decide +kernel
theorem dX12_push_14 : decode cX12_push 14 = .ok (.getfield 71, 3) := by decide +kernel
theorem dX12_push_17 : decode cX12_push 17 = .ok (.aload_n 0, 1) := by decide +kernel
theorem dX12_push_18 : decode cX12_push 18 = .ok (.getfield 533, 3) := by decide +kernel
theorem dX12_push_21 : decode cX12_push 21 = .ok (.iconst 1, 1) := by decide +kernel
theorem dX12_push_22 : decode cX12_push 22 = .ok (.isub, 1) := by decide +kernel
theorem dX12_push_23 : decode cX12_push 23 = .ok (.iaload, 1) := by decide +kernel
theorem dX12_push_24 : decode cX12_push 24 = .ok (.iadd, 1) := by decide +kernel
theorem dX12_push_25 : decode cX12_push 25 = .ok (.lload_n 1, 1) := by decide +kernel
theorem dX12_push_26 : decode cX12_push 26 = .ok (.lastore, 1) := by decide +kernel
theorem dX12_push_27 : decode cX12_push 27 = .ok (.aload_n 0, 1) := by decide +kernel
theorem dX12_push_28 : decode cX12_push 28 = .ok (.getfield 71, 3) := by decide +kernel
theorem dX12_push_31 : decode cX12_push 31 = .ok (.aload_n 0, 1) := by decide +kernel
theorem dX12_push_32 : decode cX12_push 32 = .ok (.getfield 533, 3) := by decide +kernel
theorem dX12_push_35 : decode cX12_push 35 = .ok (.iconst 1, 1) := by decide +kernel
theorem dX12_push_36 : decode cX12_push 36 = .ok (.isub, 1) := by decide +kernel
theorem dX12_push_37 : decode cX12_push 37 = .ok (.dup2, 1) := by decide +kernel
theorem dX12_push_38 : decode cX12_push 38 = .ok (.iaload, 1) := by decide +kernel
theorem dX12_push_39 : decode cX12_push 39 = .ok (.iconst 1, 1) := by decide +kernel
theorem dX12_push_40 : decode cX12_push 40 = .ok (.iadd, 1) := by decide +kernel
theorem dX12_push_41 : decode cX12_push 41 = .ok (.iastore, 1) := by decide +kernel
theorem dX12_push_42 : decode cX12_push 42 = .ok (.return_, 1) := by decide +kernel
theorem dX12_isInt_0 : decode cX12_isInt 0 = .ok (.lload_n 0, 1) := by decide +kernel
theorem dX12_isInt_1 : decode cX12_isInt 1 = .ok (.ldc2_w 553, 3) := by decide +kernel
theorem dX12_isInt_4 : decode cX12_isInt 4 = .ok (.lcmp, 1) := by decide +kernel
theorem dX12_isInt_5 : decode cX12_isInt 5 = .ok (.ifCond .ge 15, 3) := by decide +kernel
theorem dX12_isInt_8 : decode cX12_isInt 8 = .ok (.lload_n 0, 1) := by decide +kernel
theorem dX12_isInt_9 : decode cX12_isInt 9 = .ok (.ldc2_w 551, 3) := by decide +kernel
theorem dX12_isInt_12 : decode cX12_isInt 12 = .ok (.lcmp, 1) := by decide +kernel
theorem dX12_isInt_13 : decode cX12_isInt 13 = .ok (.ifCond .eq 7, 3) := by decide +kernel
theorem dX12_isInt_16 : decode cX12_isInt 16 = .ok (.iconst 1, 1) := by decide +kernel
theorem dX12_isInt_17 : decode cX12_isInt 17 = .ok (.goto 4, 3) := by decide +kernel
theorem dX12_isInt_20 : decode cX12_isInt 20 = .ok (.iconst 0, 1) := by decide +kernel
theorem dX12_isInt_21 : decode cX12_isInt 21 = .ok (.ireturn, 1) := by decide +kernel
theorem dX12_isObject_0 : decode cX12_isObject 0 = .ok (.lload_n 0, 1) := by decide +kernel
theorem dX12_isObject_1 : decode cX12_isObject 1 = .ok (.ldc2_w 553, 3) := by decide +kernel
theorem dX12_isObject_4 : decode cX12_isObject 4 = .ok (.lcmp, 1) := by decide +kernel
theorem dX12_isObject_5 : decode cX12_isObject 5 = .ok (.ifCond .le 15, 3) := by decide +kernel
theorem dX12_isObject_8 : decode cX12_isObject 8 = .ok (.lload_n 0, 1) := by decide +kernel
theorem dX12_isObject_9 : decode cX12_isObject 9 = .ok (.ldc2_w 551, 3) := by decide +kernel
theorem dX12_isObject_12 : decode cX12_isObject 12 = .ok (.lcmp, 1) := by decide +kernel
theorem dX12_isObject_13 : decode cX12_isObject 13 = .ok (.ifCond .eq 7, 3) := by decide +kernel
theorem dX12_isObject_16 : decode cX12_isObject 16 = .ok (.iconst 1, 1) := by decide +kernel
theorem dX12_isObject_17 : decode cX12_isObject 17 = .ok (.goto 4, 3) := by decide +kernel
theorem dX12_isObject_20 : decode cX12_isObject 20 = .ok (.iconst 0, 1) := by decide +kernel
theorem dX12_isObject_21 : decode cX12_isObject 21 = .ok (.ireturn, 1) := by decide +kernel
theorem dX12_objectOf_0 : decode cX12_objectOf 0 = .ok (.lload_n 0, 1) := by decide +kernel
theorem dX12_objectOf_1 : decode cX12_objectOf 1 = .ok (.ldc2_w 553, 3) := by decide +kernel
theorem dX12_objectOf_4 : decode cX12_objectOf 4 = .ok (.lsub, 1) := by decide +kernel
theorem dX12_objectOf_5 : decode cX12_objectOf 5 = .ok (.lconst 1, 1) := by decide +kernel
theorem dX12_objectOf_6 : decode cX12_objectOf 6 = .ok (.lsub, 1) := by decide +kernel
theorem dX12_objectOf_7 : decode cX12_objectOf 7 = .ok (.l2i, 1) := by decide +kernel
theorem dX12_objectOf_8 : decode cX12_objectOf 8 = .ok (.ireturn, 1) := by decide +kernel
theorem dX12_holds_0 : decode cX12_holds 0 = .ok (.aload_n 0, 1) := by decide +kernel
theorem dX12_holds_1 : decode cX12_holds 1 = .ok (.getfield 10, 3) := by decide +kernel
theorem dX12_holds_4 : decode cX12_holds 4 = .ok (.astore_n 2, 1) := by decide +kernel
theorem dX12_holds_5 : decode cX12_holds 5 = .ok (.aload_n 2, 1) := by decide +kernel
theorem dX12_holds_6 : decode cX12_holds 6 = .ok (.getfield 439, 3) := by decide +kernel
theorem dX12_holds_9 : decode cX12_holds 9 = .ok (.iload_n 1, 1) := by decide +kernel
theorem dX12_holds_10 : decode cX12_holds 10 = .ok (.baload, 1) := by decide +kernel
theorem dX12_holds_11 : decode cX12_holds 11 = .ok (.ifCond .eq 23, 3) := by decide +kernel
theorem dX12_holds_14 : decode cX12_holds 14 = .ok (.aload_n 2, 1) := by decide +kernel
theorem dX12_holds_15 : decode cX12_holds 15 = .ok (.getfield 424, 3) := by decide +kernel
theorem dX12_holds_18 : decode cX12_holds 18 = .ok (.iload_n 1, 1) := by decide +kernel
theorem dX12_holds_19 : decode cX12_holds 19 = .ok (.iaload, 1) := by decide +kernel
theorem dX12_holds_20 : decode cX12_holds 20 = .ok (.aload_n 0, 1) := by decide +kernel
theorem dX12_holds_21 : decode cX12_holds 21 = .ok (.getfield 71, 3) := by decide +kernel
theorem dX12_holds_24 : decode cX12_holds 24 = .ok (.aload_n 0, 1) := by decide +kernel
theorem dX12_holds_25 : decode cX12_holds 25 = .ok (.getfield 533, 3) := by decide +kernel
theorem dX12_holds_28 : decode cX12_holds 28 = .ok (.iconst 1, 1) := by decide +kernel
theorem dX12_holds_29 : decode cX12_holds 29 = .ok (.isub, 1) := by decide +kernel
theorem dX12_holds_30 : decode cX12_holds 30 = .ok (.iaload, 1) := by decide +kernel
theorem dX12_holds_31 : decode cX12_holds 31 = .ok (.if_icmp .eq 5, 3) := by decide +kernel
theorem dX12_holds_34 : decode cX12_holds 34 = .ok (.iconst 0, 1) := by decide +kernel
theorem dX12_holds_35 : decode cX12_holds 35 = .ok (.ireturn, 1) := by decide +kernel
theorem dX12_holds_36 : decode cX12_holds 36 = .ok (.iconst 0, 1) := by decide +kernel
theorem dX12_holds_37 : decode cX12_holds 37 = .ok (.istore_n 3, 1) := by decide +kernel
theorem dX12_holds_38 : decode cX12_holds 38 = .ok (.iload_n 3, 1) := by decide +kernel
theorem dX12_holds_39 : decode cX12_holds 39 = .ok (.bipush 12, 2) := by decide +kernel
theorem dX12_holds_41 : decode cX12_holds 41 = .ok (.aload_n 2, 1) := by decide +kernel
theorem dX12_holds_42 : decode cX12_holds 42 = .ok (.getfield 424, 3) := by decide +kernel
theorem dX12_holds_45 : decode cX12_holds 45 = .ok (.iload_n 1, 1) := by decide +kernel
theorem dX12_holds_46 : decode cX12_holds 46 = .ok (.iaload, 1) := by decide +kernel
theorem dX12_holds_47 : decode cX12_holds 47 = .ok (.iadd, 1) := by decide +kernel
theorem dX12_holds_48 : decode cX12_holds 48 = .ok (.if_icmp .ge 66, 3) := by decide +kernel
theorem dX12_holds_51 : decode cX12_holds 51 = .ok (.iload_n 3, 1) := by decide +kernel
theorem dX12_holds_52 : decode cX12_holds 52 = .ok (.bipush 12, 2) := by decide +kernel
theorem dX12_holds_54 : decode cX12_holds 54 = .ok (.if_icmp .ge 11, 3) := by decide +kernel
theorem dX12_holds_57 : decode cX12_holds 57 = .ok (.aload_n 0, 1) := by decide +kernel
theorem dX12_holds_58 : decode cX12_holds 58 = .ok (.iload_n 3, 1) := by decide +kernel
theorem dX12_holds_59 : decode cX12_holds 59 = .ok (.invokevirtual 555, 3) := by decide +kernel
theorem dX12_holds_62 : decode cX12_holds 62 = .ok (.goto 22, 3) := by decide +kernel
theorem dX12_holds_65 : decode cX12_holds 65 = .ok (.aload_n 0, 1) := by decide +kernel
theorem dX12_holds_66 : decode cX12_holds 66 = .ok (.getfield 68, 3) := by decide +kernel
theorem dX12_holds_69 : decode cX12_holds 69 = .ok (.aload_n 0, 1) := by decide +kernel
theorem dX12_holds_70 : decode cX12_holds 70 = .ok (.getfield 533, 3) := by decide +kernel
theorem dX12_holds_73 : decode cX12_holds 73 = .ok (.iconst 1, 1) := by decide +kernel
theorem dX12_holds_74 : decode cX12_holds 74 = .ok (.isub, 1) := by decide +kernel
theorem dX12_holds_75 : decode cX12_holds 75 = .ok (.bipush 8, 2) := by decide +kernel
theorem dX12_holds_77 : decode cX12_holds 77 = .ok (.imul, 1) := by decide +kernel
theorem dX12_holds_78 : decode cX12_holds 78 = .ok (.iload_n 3, 1) := by decide +kernel
theorem dX12_holds_79 : decode cX12_holds 79 = .ok (.iadd, 1) := by decide +kernel
theorem dX12_holds_80 : decode cX12_holds 80 = .ok (.bipush 12, 2) := by decide +kernel
theorem dX12_holds_82 : decode cX12_holds 82 = .ok (.isub, 1) := by decide +kernel
theorem dX12_holds_83 : decode cX12_holds 83 = .ok (.laload, 1) := by decide +kernel
theorem dX12_holds_84 : decode cX12_holds 84 = .ok (.lstore 4, 2) := by decide +kernel
theorem dX12_holds_86 : decode cX12_holds 86 = .ok (.aload_n 0, 1) := by decide +kernel
theorem dX12_holds_87 : decode cX12_holds 87 = .ok (.lload 4, 2) := by decide +kernel
theorem dX12_holds_89 : decode cX12_holds 89 = .ok (.aload_n 2, 1) := by decide +kernel
theorem dX12_holds_90 : decode cX12_holds 90 = .ok (.getfield 442, 3) := by decide +kernel
theorem dX12_holds_93 : decode cX12_holds 93 = .ok (.iload_n 1, 1) := by decide +kernel
theorem dX12_holds_94 : decode cX12_holds 94 = .ok (.bipush 20, 2) := by decide +kernel
theorem dX12_holds_96 : decode cX12_holds 96 = .ok (.imul, 1) := by decide +kernel
theorem dX12_holds_97 : decode cX12_holds 97 = .ok (.iload_n 3, 1) := by decide +kernel
theorem dX12_holds_98 : decode cX12_holds 98 = .ok (.iadd, 1) := by decide +kernel
theorem dX12_holds_99 : decode cX12_holds 99 = .ok (.iaload, 1) := by decide +kernel
theorem dX12_holds_100 : decode cX12_holds 100 = .ok (.invokevirtual 558, 3) := by decide +kernel
theorem dX12_holds_103 : decode cX12_holds 103 = .ok (.ifCond .ne 5, 3) := by decide +kernel
theorem dX12_holds_106 : decode cX12_holds 106 = .ok (.iconst 0, 1) := by decide +kernel
theorem dX12_holds_107 : decode cX12_holds 107 = .ok (.ireturn, 1) := by decide +kernel
theorem dX12_holds_108 : decode cX12_holds 108 = .ok (.iinc 3 1, 3) := by decide +kernel
theorem dX12_holds_111 : decode cX12_holds 111 = .ok (.goto (-73), 3) := by decide +kernel
theorem dX12_holds_114 : decode cX12_holds 114 = .ok (.aload_n 2, 1) := by decide +kernel
theorem dX12_holds_115 : decode cX12_holds 115 = .ok (.getfield 353, 3) := by decide +kernel
theorem dX12_holds_118 : decode cX12_holds 118 = .ok (.iload_n 1, 1) := by decide +kernel
theorem dX12_holds_119 : decode cX12_holds 119 = .ok (.iaload, 1) := by decide +kernel
theorem dX12_holds_120 : decode cX12_holds 120 = .ok (.iconst 2, 1) := by decide +kernel
theorem dX12_holds_121 : decode cX12_holds 121 = .ok (.if_icmp .ne 20, 3) := by decide +kernel
theorem dX12_holds_124 : decode cX12_holds 124 = .ok (.aload_n 0, 1) := by decide +kernel
theorem dX12_holds_125 : decode cX12_holds 125 = .ok (.aload_n 2, 1) := by decide +kernel
theorem dX12_holds_126 : decode cX12_holds 126 = .ok (.getfield 376, 3) := by decide +kernel
theorem dX12_holds_129 : decode cX12_holds 129 = .ok (.iload_n 1, 1) := by decide +kernel
theorem dX12_holds_130 : decode cX12_holds 130 = .ok (.iaload, 1) := by decide +kernel
theorem dX12_holds_131 : decode cX12_holds 131 = .ok (.invokevirtual 555, 3) := by decide +kernel
theorem dX12_holds_134 : decode cX12_holds 134 = .ok (.ldc2_w 551, 3) := by decide +kernel
theorem dX12_holds_137 : decode cX12_holds 137 = .ok (.lcmp, 1) := by decide +kernel
theorem dX12_holds_138 : decode cX12_holds 138 = .ok (.ifCond .eq 7, 3) := by decide +kernel
theorem dX12_holds_141 : decode cX12_holds 141 = .ok (.iconst 1, 1) := by decide +kernel
theorem dX12_holds_142 : decode cX12_holds 142 = .ok (.goto 4, 3) := by decide +kernel
theorem dX12_holds_145 : decode cX12_holds 145 = .ok (.iconst 0, 1) := by decide +kernel
theorem dX12_holds_146 : decode cX12_holds 146 = .ok (.ireturn, 1) := by decide +kernel
theorem dX12_isOf_0 : decode cX12_isOf 0 = .ok (.iload_n 3, 1) := by decide +kernel
theorem dX12_isOf_1 : decode cX12_isOf 1 = .ok (.iconst 2, 1) := by decide +kernel
theorem dX12_isOf_2 : decode cX12_isOf 2 = .ok (.if_icmp .ne 5, 3) := by decide +kernel
theorem dX12_isOf_5 : decode cX12_isOf 5 = .ok (.iconst 1, 1) := by decide +kernel
theorem dX12_isOf_6 : decode cX12_isOf 6 = .ok (.ireturn, 1) := by decide +kernel
theorem dX12_isOf_7 : decode cX12_isOf 7 = .ok (.iload_n 3, 1) := by decide +kernel
theorem dX12_isOf_8 : decode cX12_isOf 8 = .ok (.ifCond .ne 8, 3) := by decide +kernel
theorem dX12_isOf_11 : decode cX12_isOf 11 = .ok (.lload_n 1, 1) := by decide +kernel
theorem dX12_isOf_12 : decode cX12_isOf 12 = .ok (.invokestatic 562, 3) := by decide +kernel
theorem dX12_isOf_15 : decode cX12_isOf 15 = .ok (.ireturn, 1) := by decide +kernel
theorem dX12_isOf_16 : decode cX12_isOf 16 = .ok (.lload_n 1, 1) := by decide +kernel
theorem dX12_isOf_17 : decode cX12_isOf 17 = .ok (.invokestatic 562, 3) := by decide +kernel
theorem dX12_isOf_20 : decode cX12_isOf 20 = .ok (.ifCond .ne 11, 3) := by decide +kernel
theorem dX12_isOf_23 : decode cX12_isOf 23 = .ok (.lload_n 1, 1) := by decide +kernel
theorem dX12_isOf_24 : decode cX12_isOf 24 = .ok (.ldc2_w 551, 3) := by decide +kernel
theorem dX12_isOf_27 : decode cX12_isOf 27 = .ok (.lcmp, 1) := by decide +kernel
theorem dX12_isOf_28 : decode cX12_isOf 28 = .ok (.ifCond .ne 5, 3) := by decide +kernel
theorem dX12_isOf_31 : decode cX12_isOf 31 = .ok (.iconst 0, 1) := by decide +kernel
theorem dX12_isOf_32 : decode cX12_isOf 32 = .ok (.ireturn, 1) := by decide +kernel
theorem dX12_isOf_33 : decode cX12_isOf 33 = .ok (.lload_n 1, 1) := by decide +kernel
theorem dX12_isOf_34 : decode cX12_isOf 34 = .ok (.ldc2_w 553, 3) := by decide +kernel
theorem dX12_isOf_37 : decode cX12_isOf 37 = .ok (.lcmp, 1) := by decide +kernel
theorem dX12_isOf_38 : decode cX12_isOf 38 = .ok (.ifCond .eq 28, 3) := by decide +kernel
theorem dX12_isOf_41 : decode cX12_isOf 41 = .ok (.iload_n 3, 1) := by decide +kernel
theorem dX12_isOf_42 : decode cX12_isOf 42 = .ok (.iconst 1, 1) := by decide +kernel
theorem dX12_isOf_43 : decode cX12_isOf 43 = .ok (.if_icmp .eq 27, 3) := by decide +kernel
theorem dX12_isOf_46 : decode cX12_isOf 46 = .ok (.aload_n 0, 1) := by decide +kernel
theorem dX12_isOf_47 : decode cX12_isOf 47 = .ok (.getfield 10, 3) := by decide +kernel
theorem dX12_isOf_50 : decode cX12_isOf 50 = .ok (.aload_n 0, 1) := by decide +kernel
theorem dX12_isOf_51 : decode cX12_isOf 51 = .ok (.getfield 77, 3) := by decide +kernel
theorem dX12_isOf_54 : decode cX12_isOf 54 = .ok (.lload_n 1, 1) := by decide +kernel
theorem dX12_isOf_55 : decode cX12_isOf 55 = .ok (.invokestatic 566, 3) := by decide +kernel
theorem dX12_isOf_58 : decode cX12_isOf 58 = .ok (.iaload, 1) := by decide +kernel
theorem dX12_isOf_59 : decode cX12_isOf 59 = .ok (.iload_n 3, 1) := by decide +kernel
theorem dX12_isOf_60 : decode cX12_isOf 60 = .ok (.invokestatic 436, 3) := by decide +kernel
theorem dX12_isOf_63 : decode cX12_isOf 63 = .ok (.ifCond .eq 7, 3) := by decide +kernel
theorem dX12_isOf_66 : decode cX12_isOf 66 = .ok (.iconst 1, 1) := by decide +kernel
theorem dX12_isOf_67 : decode cX12_isOf 67 = .ok (.goto 4, 3) := by decide +kernel
theorem dX12_isOf_70 : decode cX12_isOf 70 = .ok (.iconst 0, 1) := by decide +kernel
theorem dX12_isOf_71 : decode cX12_isOf 71 = .ok (.ireturn, 1) := by decide +kernel
theorem dX12_ended_0 : decode cX12_ended 0 = .ok (.aload_n 0, 1) := by decide +kernel
theorem dX12_ended_1 : decode cX12_ended 1 = .ok (.iload_n 1, 1) := by decide +kernel
theorem dX12_ended_2 : decode cX12_ended 2 = .ok (.putfield 536, 3) := by decide +kernel
theorem dX12_ended_5 : decode cX12_ended 5 = .ok (.aload_n 0, 1) := by decide +kernel
theorem dX12_ended_6 : decode cX12_ended 6 = .ok (.iload_n 2, 1) := by decide +kernel
theorem dX12_ended_7 : decode cX12_ended 7 = .ok (.putfield 98, 3) := by decide +kernel
theorem dX12_ended_10 : decode cX12_ended 10 = .ok (.return_, 1) := by decide +kernel
theorem dX12_object_0 : decode cX12_object 0 = .ok (.aload_n 0, 1) := by decide +kernel
theorem dX12_object_1 : decode cX12_object 1 = .ok (.getfield 518, 3) := by decide +kernel
theorem dX12_object_4 : decode cX12_object 4 = .ok (.sipush 2000, 3) := by decide +kernel
theorem dX12_object_7 : decode cX12_object 7 = .ok (.if_icmp .eq 15, 3) := by decide +kernel
theorem dX12_object_10 : decode cX12_object 10 = .ok (.aload_n 0, 1) := by decide +kernel
theorem dX12_object_11 : decode cX12_object 11 = .ok (.getfield 521, 3) := by decide +kernel
theorem dX12_object_14 : decode cX12_object 14 = .ok (.iload_n 3, 1) := by decide +kernel
theorem dX12_object_15 : decode cX12_object 15 = .ok (.iadd, 1) := by decide +kernel
theorem dX12_object_16 : decode cX12_object 16 = .ok (.sipush 12000, 3) := by decide +kernel
theorem dX12_object_19 : decode cX12_object 19 = .ok (.if_icmp .le 12, 3) := by decide +kernel
theorem dX12_object_22 : decode cX12_object 22 = .ok (.aload_n 0, 1) := by decide +kernel
theorem dX12_object_23 : decode cX12_object 23 = .ok (.iconst 3, 1) := by decide +kernel
theorem dX12_object_24 : decode cX12_object 24 = .ok (.iload 4, 2) := by decide +kernel
theorem dX12_object_26 : decode cX12_object 26 = .ok (.invokevirtual 570, 3) := by decide +kernel
theorem dX12_object_29 : decode cX12_object 29 = .ok (.lconst 0, 1) := by decide +kernel
theorem dX12_object_30 : decode cX12_object 30 = .ok (.lreturn, 1) := by decide +kernel
theorem dX12_object_31 : decode cX12_object 31 = .ok (.aload_n 0, 1) := by decide +kernel
theorem dX12_object_32 : decode cX12_object 32 = .ok (.getfield 77, 3) := by decide +kernel
theorem dX12_object_35 : decode cX12_object 35 = .ok (.aload_n 0, 1) := by decide +kernel
theorem dX12_object_36 : decode cX12_object 36 = .ok (.getfield 518, 3) := by decide +kernel
theorem dX12_object_39 : decode cX12_object 39 = .ok (.iload_n 1, 1) := by decide +kernel
theorem dX12_object_40 : decode cX12_object 40 = .ok (.iastore, 1) := by decide +kernel
theorem dX12_object_41 : decode cX12_object 41 = .ok (.aload_n 0, 1) := by decide +kernel
theorem dX12_object_42 : decode cX12_object 42 = .ok (.getfield 80, 3) := by decide +kernel
theorem dX12_object_45 : decode cX12_object 45 = .ok (.aload_n 0, 1) := by decide +kernel
theorem dX12_object_46 : decode cX12_object 46 = .ok (.getfield 518, 3) := by decide +kernel
theorem dX12_object_49 : decode cX12_object 49 = .ok (.iload_n 2, 1) := by decide +kernel
theorem dX12_object_50 : decode cX12_object 50 = .ok (.iastore, 1) := by decide +kernel
theorem dX12_object_51 : decode cX12_object 51 = .ok (.aload_n 0, 1) := by decide +kernel
theorem dX12_object_52 : decode cX12_object 52 = .ok (.getfield 83, 3) := by decide +kernel
theorem dX12_object_55 : decode cX12_object 55 = .ok (.aload_n 0, 1) := by decide +kernel
theorem dX12_object_56 : decode cX12_object 56 = .ok (.getfield 518, 3) := by decide +kernel
theorem dX12_object_59 : decode cX12_object 59 = .ok (.aload_n 0, 1) := by decide +kernel
theorem dX12_object_60 : decode cX12_object 60 = .ok (.getfield 521, 3) := by decide +kernel
theorem dX12_object_63 : decode cX12_object 63 = .ok (.iastore, 1) := by decide +kernel
theorem dX12_object_64 : decode cX12_object 64 = .ok (.aload_n 0, 1) := by decide +kernel
theorem dX12_object_65 : decode cX12_object 65 = .ok (.getfield 86, 3) := by decide +kernel
theorem dX12_object_68 : decode cX12_object 68 = .ok (.aload_n 0, 1) := by decide +kernel
theorem dX12_object_69 : decode cX12_object 69 = .ok (.getfield 518, 3) := by decide +kernel
theorem dX12_object_72 : decode cX12_object 72 = .ok (.iload_n 3, 1) := by decide +kernel
theorem dX12_object_73 : decode cX12_object 73 = .ok (.iastore, 1) := by decide +kernel
theorem dX12_object_74 : decode cX12_object 74 = .ok (.aload_n 0, 1) := by decide +kernel
theorem dX12_object_75 : decode cX12_object 75 = .ok (.dup, 1) := by decide +kernel
theorem dX12_object_76 : decode cX12_object 76 = .ok (.getfield 521, 3) := by decide +kernel
theorem dX12_object_79 : decode cX12_object 79 = .ok (.iload_n 3, 1) := by decide +kernel
theorem dX12_object_80 : decode cX12_object 80 = .ok (.iadd, 1) := by decide +kernel
theorem dX12_object_81 : decode cX12_object 81 = .ok (.putfield 521, 3) := by decide +kernel
theorem dX12_object_84 : decode cX12_object 84 = .ok (.aload_n 0, 1) := by decide +kernel
theorem dX12_object_85 : decode cX12_object 85 = .ok (.dup, 1) := by decide +kernel
theorem dX12_object_86 : decode cX12_object 86 = .ok (.getfield 518, 3) := by decide +kernel
theorem dX12_object_89 : decode cX12_object 89 = .ok (.iconst 1, 1) := by decide +kernel
theorem dX12_object_90 : decode cX12_object 90 = .ok (.iadd, 1) := by decide +kernel
theorem dX12_object_91 : decode cX12_object 91 = .ok (.putfield 518, 3) := by decide +kernel
theorem dX12_object_94 : decode cX12_object 94 = .ok (.ldc2_w 553, 3) := by decide +kernel
theorem dX12_object_97 : decode cX12_object 97 = .ok (.aload_n 0, 1) := by decide +kernel
theorem dX12_object_98 : decode cX12_object 98 = .ok (.getfield 518, 3) := by decide +kernel
theorem dX12_object_101 : decode cX12_object 101 = .ok (.i2l, 1) := by decide +kernel
theorem dX12_object_102 : decode cX12_object 102 = .ok (.ladd, 1) := by decide +kernel
theorem dX12_object_103 : decode cX12_object 103 = .ok (.lreturn, 1) := by decide +kernel
theorem dX12_raise_0 : decode cX12_raise 0 = .ok (.aload_n 0, 1) := by decide +kernel
theorem dX12_raise_1 : decode cX12_raise 1 = .ok (.bipush 10, 2) := by decide +kernel
theorem dX12_raise_3 : decode cX12_raise 3 = .ok (.iload_n 1, 1) := by decide +kernel
theorem dX12_raise_4 : decode cX12_raise 4 = .ok (.iadd, 1) := by decide +kernel
theorem dX12_raise_5 : decode cX12_raise 5 = .ok (.bipush 48, 2) := by decide +kernel
theorem dX12_raise_7 : decode cX12_raise 7 = .ok (.iload_n 1, 1) := by decide +kernel
theorem dX12_raise_8 : decode cX12_raise 8 = .ok (.iadd, 1) := by decide +kernel
theorem dX12_raise_9 : decode cX12_raise 9 = .ok (.iconst 0, 1) := by decide +kernel
theorem dX12_raise_10 : decode cX12_raise 10 = .ok (.iload_n 2, 1) := by decide +kernel
theorem dX12_raise_11 : decode cX12_raise 11 = .ok (.invokevirtual 574, 3) := by decide +kernel
theorem dX12_raise_14 : decode cX12_raise 14 = .ok (.lstore_n 3, 1) := by decide +kernel
theorem dX12_raise_15 : decode cX12_raise 15 = .ok (.lload_n 3, 1) := by decide +kernel
theorem dX12_raise_16 : decode cX12_raise 16 = .ok (.lconst 0, 1) := by decide +kernel
theorem dX12_raise_17 : decode cX12_raise 17 = .ok (.lcmp, 1) := by decide +kernel
theorem dX12_raise_18 : decode cX12_raise 18 = .ok (.ifCond .eq 9, 3) := by decide +kernel
