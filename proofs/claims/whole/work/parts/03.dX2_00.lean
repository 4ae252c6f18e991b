theorem dX2_init_0 : decode cX2_init 0 = .ok (.aload_n 0, 1) := by decide +kernel
theorem dX2_init_1 : decode cX2_init 1 = .ok (.invokespecial 3, 3) := by decide +kernel
theorem dX2_init_4 : decode cX2_init 4 = .ok (.aload_n 0, 1) := by decide +kernel
theorem dX2_init_5 : decode cX2_init 5 = .ok (.bipush 40, 2) := by decide +kernel
theorem dX2_init_7 : decode cX2_init 7 = .ok (.newarray .int, 2) := by decide +kernel
theorem dX2_init_9 : decode cX2_init 9 = .ok (.putfield 9, 3) := by decide +kernel
theorem dX2_init_12 : decode cX2_init 12 = .ok (.aload_n 0, 1) := by decide +kernel
theorem dX2_init_13 : decode cX2_init 13 = .ok (.bipush 40, 2) := by decide +kernel
theorem dX2_init_15 : decode cX2_init 15 = .ok (.newarray .int, 2) := by decide +kernel
theorem dX2_init_17 : decode cX2_init 17 = .ok (.putfield 15, 3) := by decide +kernel
theorem dX2_init_20 : decode cX2_init 20 = .ok (.aload_n 0, 1) := by decide +kernel
theorem dX2_init_21 : decode cX2_init 21 = .ok (.bipush 40, 2) := by decide +kernel
theorem dX2_init_23 : decode cX2_init 23 = .ok (.newarray .int, 2) := by decide +kernel
theorem dX2_init_25 : decode cX2_init 25 = .ok (.putfield 18, 3) := by decide +kernel
theorem dX2_init_28 : decode cX2_init 28 = .ok (.aload_n 0, 1) := by decide +kernel
theorem dX2_init_29 : decode cX2_init 29 = .ok (.iconst 0, 1) := by decide +kernel
theorem dX2_init_30 : decode cX2_init 30 = .ok (.putfield 21, 3) := by decide +kernel
theorem dX2_init_33 : decode cX2_init 33 = .ok (.aload_n 0, 1) := by decide +kernel
theorem dX2_init_34 : decode cX2_init 34 = .ok (.iconst 0, 1) := by decide +kernel
theorem dX2_init_35 : decode cX2_init 35 = .ok (.putfield 25, 3) := by decide +kernel
theorem dX2_init_38 : decode cX2_init 38 = .ok (.aload_n 0, 1) := by decide +kernel
theorem dX2_init_39 : decode cX2_init 39 = .ok (.iconst 0, 1) := by decide +kernel
theorem dX2_init_40 : decode cX2_init 40 = .ok (.putfield 28, 3) := by decide +kernel
theorem dX2_init_43 : decode cX2_init 43 = .ok (.aload_n 0, 1) := by decide +kernel
theorem dX2_init_44 : decode cX2_init 44 = .ok (.getfield 9, 3) := by decide +kernel
theorem dX2_init_47 : decode cX2_init 47 = .ok (.iconst 0, 1) := by decide +kernel
theorem dX2_init_48 : decode cX2_init 48 = .ok (.bipush (-119), 2) := by decide +kernel
theorem dX2_init_50 : decode cX2_init 50 = .ok (.iastore, 1) := by decide +kernel
theorem dX2_init_51 : decode cX2_init 51 = .ok (.aload_n 0, 1) := by decide +kernel
theorem dX2_init_52 : decode cX2_init 52 = .ok (.iconst 1, 1) := by decide +kernel
theorem dX2_init_53 : decode cX2_init 53 = .ok (.putfield 21, 3) := by decide +kernel
theorem dX2_init_56 : decode cX2_init 56 = .ok (.return_, 1) := by decide +kernel
theorem dX2_isDigit_0 : decode cX2_isDigit 0 = .ok (.iload_n 0, 1) := by decide +kernel
theorem dX2_isDigit_1 : decode cX2_isDigit 1 = .ok (.bipush 48, 2) := by decide +kernel
theorem dX2_isDigit_3 : decode cX2_isDigit 3 = .ok (.if_icmp .lt 13, 3) := by decide +kernel
theorem dX2_isDigit_6 : decode cX2_isDigit 6 = .ok (.iload_n 0, 1) := by decide +kernel
theorem dX2_isDigit_7 : decode cX2_isDigit 7 = .ok (.bipush 57, 2) := by decide +kernel
theorem dX2_isDigit_9 : decode cX2_isDigit 9 = .ok (.if_icmp .gt 7, 3) := by decide +kernel
theorem dX2_isDigit_12 : decode cX2_isDigit 12 = .ok (.iconst 1, 1) := by decide +kernel
theorem dX2_isDigit_13 : decode cX2_isDigit 13 = .ok (.goto 4, 3) := by decide +kernel
theorem dX2_isDigit_16 : decode cX2_isDigit 16 = .ok (.iconst 0, 1) := by decide +kernel
theorem dX2_isDigit_17 : decode cX2_isDigit 17 = .ok (.ireturn, 1) := by decide +kernel
theorem dX2_isName_0 : decode cX2_isName 0 = .ok (.iload_n 0, 1) := by decide +kernel
theorem dX2_isName_1 : decode cX2_isName 1 = .ok (.bipush 102, 2) := by decide +kernel
theorem dX2_isName_3 : decode cX2_isName 3 = .ok (.if_icmp .eq 39, 3) := by decide +kernel
theorem dX2_isName_6 : decode cX2_isName 6 = .ok (.iload_n 0, 1) := by decide +kernel
theorem dX2_isName_7 : decode cX2_isName 7 = .ok (.bipush 119, 2) := by decide +kernel
theorem dX2_isName_9 : decode cX2_isName 9 = .ok (.if_icmp .eq 33, 3) := by decide +kernel
theorem dX2_isName_12 : decode cX2_isName 12 = .ok (.iload_n 0, 1) := by decide +kernel
theorem dX2_isName_13 : decode cX2_isName 13 = .ok (.bipush 100, 2) := by decide +kernel
theorem dX2_isName_15 : decode cX2_isName 15 = .ok (.if_icmp .eq 27, 3) := by decide +kernel
theorem dX2_isName_18 : decode cX2_isName 18 = .ok (.iload_n 0, 1) := by decide +kernel
theorem dX2_isName_19 : decode cX2_isName 19 = .ok (.bipush 115, 2) := by decide +kernel
theorem dX2_isName_21 : decode cX2_isName 21 = .ok (.if_icmp .eq 21, 3) := by decide +kernel
theorem dX2_isName_24 : decode cX2_isName 24 = .ok (.iload_n 0, 1) := by decide +kernel
theorem dX2_isName_25 : decode cX2_isName 25 = .ok (.bipush 110, 2) := by decide +kernel
theorem dX2_isName_27 : decode cX2_isName 27 = .ok (.if_icmp .eq 15, 3) := by decide +kernel
theorem dX2_isName_30 : decode cX2_isName 30 = .ok (.iload_n 0, 1) := by decide +kernel
theorem dX2_isName_31 : decode cX2_isName 31 = .ok (.bipush 114, 2) := by decide +kernel
theorem dX2_isName_33 : decode cX2_isName 33 = .ok (.if_icmp .eq 9, 3) := by decide +kernel
theorem dX2_isName_36 : decode cX2_isName 36 = .ok (.iload_n 0, 1) := by decide +kernel
theorem dX2_isName_37 : decode cX2_isName 37 = .ok (.bipush 108, 2) := by decide +kernel
theorem dX2_isName_39 : decode cX2_isName 39 = .ok (.if_icmp .ne 7, 3) := by decide +kernel
theorem dX2_isName_42 : decode cX2_isName 42 = .ok (.iconst 1, 1) := by decide +kernel
theorem dX2_isName_43 : decode cX2_isName 43 = .ok (.goto 4, 3) := by decide +kernel
theorem dX2_isName_46 : decode cX2_isName 46 = .ok (.iconst 0, 1) := by decide +kernel
theorem dX2_isName_47 : decode cX2_isName 47 = .ok (.ireturn, 1) := by decide +kernel
theorem dX2_compares_0 : decode cX2_compares 0 = .ok (.iload_n 0, 1) := by decide +kernel
theorem dX2_compares_1 : decode cX2_compares 1 = .ok (.bipush 60, 2) := by decide +kernel
theorem dX2_compares_3 : decode cX2_compares 3 = .ok (.if_icmp .eq 15, 3) := by decide +kernel
theorem dX2_compares_6 : decode cX2_compares 6 = .ok (.iload_n 0, 1) := by decide +kernel
theorem dX2_compares_7 : decode cX2_compares 7 = .ok (.bipush 62, 2) := by decide +kernel
theorem dX2_compares_9 : decode cX2_compares 9 = .ok (.if_icmp .eq 9, 3) := by decide +kernel
theorem dX2_compares_12 : decode cX2_compares 12 = .ok (.iload_n 0, 1) := by decide +kernel
theorem dX2_compares_13 : decode cX2_compares 13 = .ok (.bipush 61, 2) := by decide +kernel
theorem dX2_compares_15 : decode cX2_compares 15 = .ok (.if_icmp .ne 7, 3) := by decide +kernel
theorem dX2_compares_18 : decode cX2_compares 18 = .ok (.iconst 1, 1) := by decide +kernel
theorem dX2_compares_19 : decode cX2_compares 19 = .ok (.goto 4, 3) := by decide +kernel
theorem dX2_compares_22 : decode cX2_compares 22 = .ok (.iconst 0, 1) := by decide +kernel
theorem dX2_compares_23 : decode cX2_compares 23 = .ok (.ireturn, 1) := by decide +kernel
theorem dX2_joinsTwo_0 : decode cX2_joinsTwo 0 = .ok (.iload_n 0, 1) := by decide +kernel
theorem dX2_joinsTwo_1 : decode cX2_joinsTwo 1 = .ok (.bipush 43, 2) := by decide +kernel
theorem dX2_joinsTwo_3 : decode cX2_joinsTwo 3 = .ok (.if_icmp .eq 28, 3) := by decide +kernel
theorem dX2_joinsTwo_6 : decode cX2_joinsTwo 6 = .ok (.iload_n 0, 1) := by decide +kernel
theorem dX2_joinsTwo_7 : decode cX2_joinsTwo 7 = .ok (.bipush 45, 2) := by decide +kernel
theorem dX2_joinsTwo_9 : decode cX2_joinsTwo 9 = .ok (.if_icmp .eq 22, 3) := by decide +kernel
theorem dX2_joinsTwo_12 : decode cX2_joinsTwo 12 = .ok (.iload_n 0, 1) := by decide +kernel
theorem dX2_joinsTwo_13 : decode cX2_joinsTwo 13 = .ok (.bipush 42, 2) := by decide +kernel
theorem dX2_joinsTwo_15 : decode cX2_joinsTwo 15 = .ok (.if_icmp .eq 16, 3) := by decide +kernel
theorem dX2_joinsTwo_18 : decode cX2_joinsTwo 18 = .ok (.iload_n 0, 1) := by decide +kernel
theorem dX2_joinsTwo_19 : decode cX2_joinsTwo 19 = .ok (.bipush 47, 2) := by decide +kernel
theorem dX2_joinsTwo_21 : decode cX2_joinsTwo 21 = .ok (.if_icmp .eq 10, 3) := by decide +kernel
theorem dX2_joinsTwo_24 : decode cX2_joinsTwo 24 = .ok (.iload_n 0, 1) := by decide +kernel
theorem dX2_joinsTwo_25 : decode cX2_joinsTwo 25 = .ok (.invokestatic 32, 3) := by decide +kernel
theorem dX2_joinsTwo_28 : decode cX2_joinsTwo 28 = .ok (.ifCond .eq 7, 3) := by decide +kernel
theorem dX2_joinsTwo_31 : decode cX2_joinsTwo 31 = .ok (.iconst 1, 1) := by decide +kernel
theorem dX2_joinsTwo_32 : decode cX2_joinsTwo 32 = .ok (.goto 4, 3) := by decide +kernel
theorem dX2_joinsTwo_35 : decode cX2_joinsTwo 35 = .ok (.iconst 0, 1) := by decide +kernel
theorem dX2_joinsTwo_36 : decode cX2_joinsTwo 36 = .ok (.ireturn, 1) := by decide +kernel
theorem dX2_strength_0 : decode cX2_strength 0 = .ok (.iload_n 0, 1) := by decide +kernel
theorem dX2_strength_1 : decode cX2_strength 1 = .ok (.bipush 126, 2) := by decide +kernel
theorem dX2_strength_3 : decode cX2_strength 3 = .ok (.if_icmp .ne 5, 3) := by decide +kernel
theorem dX2_strength_6 : decode cX2_strength 6 = .ok (.iconst 4, 1) := by decide +kernel
theorem dX2_strength_7 : decode cX2_strength 7 = .ok (.ireturn, 1) := by decide +kernel
theorem dX2_strength_8 : decode cX2_strength 8 = .ok (.iload_n 0, 1) := by decide +kernel
theorem dX2_strength_9 : decode cX2_strength 9 = .ok (.bipush 42, 2) := by decide +kernel
theorem dX2_strength_11 : decode cX2_strength 11 = .ok (.if_icmp .eq 9, 3) := by decide +kernel
theorem dX2_strength_14 : decode cX2_strength 14 = .ok (.iload_n 0, 1) := by decide +kernel
theorem dX2_strength_15 : decode cX2_strength 15 = .ok (.bipush 47, 2) := by decide +kernel
theorem dX2_strength_17 : decode cX2_strength 17 = .ok (.if_icmp .ne 5, 3) := by decide +kernel
theorem dX2_strength_20 : decode cX2_strength 20 = .ok (.iconst 3, 1) := by decide +kernel
theorem dX2_strength_21 : decode cX2_strength 21 = .ok (.ireturn, 1) := by decide +kernel
theorem dX2_strength_22 : decode cX2_strength 22 = .ok (.iload_n 0, 1) := by decide +kernel
theorem dX2_strength_23 : decode cX2_strength 23 = .ok (.bipush 43, 2) := by decide +kernel
theorem dX2_strength_25 : decode cX2_strength 25 = .ok (.if_icmp .eq 9, 3) := by decide +kernel
theorem dX2_strength_28 : decode cX2_strength 28 = .ok (.iload_n 0, 1) := by decide +kernel
theorem dX2_strength_29 : decode cX2_strength 29 = .ok (.bipush 45, 2) := by decide +kernel
theorem dX2_strength_31 : decode cX2_strength 31 = .ok (.if_icmp .ne 5, 3) := by decide +kernel
theorem dX2_strength_34 : decode cX2_strength 34 = .ok (.iconst 2, 1) := by decide +kernel
theorem dX2_strength_35 : decode cX2_strength 35 = .ok (.ireturn, 1) := by decide +kernel
theorem dX2_strength_36 : decode cX2_strength 36 = .ok (.iload_n 0, 1) := by decide +kernel
theorem dX2_strength_37 : decode cX2_strength 37 = .ok (.invokestatic 32, 3) := by decide +kernel
theorem dX2_strength_40 : decode cX2_strength 40 = .ok (.ifCond .eq 7, 3) := by decide +kernel
theorem dX2_strength_43 : decode cX2_strength 43 = .ok (.iconst 1, 1) := by decide +kernel
theorem dX2_strength_44 : decode cX2_strength 44 = .ok (.goto 4, 3) := by decide +kernel
theorem dX2_strength_47 : decode cX2_strength 47 = .ok (.iconst 0, 1) := by decide +kernel
theorem dX2_strength_48 : decode cX2_strength 48 = .ok (.ireturn, 1) := by decide +kernel
theorem dX2_flawOf_0 : decode cX2_flawOf 0 = .ok (.aload_n 1, 1) := by decide +kernel
theorem dX2_flawOf_1 : decode cX2_flawOf 1 = .ok (.getfield 36, 3) := by decide +kernel
theorem dX2_flawOf_4 : decode cX2_flawOf 4 = .ok (.ifCond .ne 5, 3) := by decide +kernel
theorem dX2_flawOf_7 : decode cX2_flawOf 7 = .ok (.iconst (-1), 1) := by decide +kernel
theorem dX2_flawOf_8 : decode cX2_flawOf 8 = .ok (.ireturn, 1) := by decide +kernel
theorem dX2_flawOf_9 : decode cX2_flawOf 9 = .ok (.aload_n 1, 1) := by decide +kernel
theorem dX2_flawOf_10 : decode cX2_flawOf 10 = .ok (.getfield 36, 3) := by decide +kernel
theorem dX2_flawOf_13 : decode cX2_flawOf 13 = .ok (.bipush 40, 2) := by decide +kernel
theorem dX2_flawOf_15 : decode cX2_flawOf 15 = .ok (.invokestatic 39, 3) := by decide +kernel
theorem dX2_flawOf_18 : decode cX2_flawOf 18 = .ok (.istore_n 2, 1) := by decide +kernel
theorem dX2_flawOf_19 : decode cX2_flawOf 19 = .ok (.iconst 1, 1) := by decide +kernel
theorem dX2_flawOf_20 : decode cX2_flawOf 20 = .ok (.istore_n 3, 1) := by decide +kernel
theorem dX2_flawOf_21 : decode cX2_flawOf 21 = .ok (.iconst 0, 1) := by decide +kernel
theorem dX2_flawOf_22 : decode cX2_flawOf 22 = .ok (.istore 4, 2) := by decide +kernel
theorem dX2_flawOf_24 : decode cX2_flawOf 24 = .ok (.iconst 0, 1) := by decide +kernel
theorem dX2_flawOf_25 : decode cX2_flawOf 25 = .ok (.istore 5, 2) := by decide +kernel
theorem dX2_flawOf_27 : decode cX2_flawOf 27 = .ok (.iconst 0, 1) := by decide +kernel
theorem dX2_flawOf_28 : decode cX2_flawOf 28 = .ok (.istore 6, 2) := by decide +kernel
theorem dX2_flawOf_30 : decode cX2_flawOf 30 = .ok (.iconst 0, 1) := by decide +kernel
theorem dX2_flawOf_31 : decode cX2_flawOf 31 = .ok (.istore 7, 2) := by decide +kernel
theorem dX2_flawOf_33 : decode cX2_flawOf 33 = .ok (.iload 7, 2) := by decide +kernel
theorem dX2_flawOf_35 : decode cX2_flawOf 35 = .ok (.iload_n 2, 1) := by decide +kernel
theorem dX2_flawOf_36 : decode cX2_flawOf 36 = .ok (.if_icmp .ge 176, 3) := by decide +kernel
theorem dX2_flawOf_39 : decode cX2_flawOf 39 = .ok (.aload_n 1, 1) := by decide +kernel
theorem dX2_flawOf_40 : decode cX2_flawOf 40 = .ok (.iload 7, 2) := by decide +kernel
theorem dX2_flawOf_42 : decode cX2_flawOf 42 = .ok (.invokevirtual 45, 3) := by decide +kernel
theorem dX2_flawOf_45 : decode cX2_flawOf 45 = .ok (.istore 8, 2) := by decide +kernel
theorem dX2_flawOf_47 : decode cX2_flawOf 47 = .ok (.iload 8, 2) := by decide +kernel
theorem dX2_flawOf_49 : decode cX2_flawOf 49 = .ok (.invokestatic 49, 3) := by decide +kernel
theorem dX2_flawOf_52 : decode cX2_flawOf 52 = .ok (.ifCond .eq 10, 3) := by decide +kernel
theorem dX2_flawOf_55 : decode cX2_flawOf 55 = .ok (.iload 6, 2) := by decide +kernel
theorem dX2_flawOf_57 : decode cX2_flawOf 57 = .ok (.iconst 1, 1) := by decide +kernel
theorem dX2_flawOf_58 : decode cX2_flawOf 58 = .ok (.iadd, 1) := by decide +kernel
theorem dX2_flawOf_59 : decode cX2_flawOf 59 = .ok (.goto 4, 3) := by decide +kernel
theorem dX2_flawOf_62 : decode cX2_flawOf 62 = .ok (.iconst 0, 1) := by decide +kernel
theorem dX2_flawOf_63 : decode cX2_flawOf 63 = .ok (.istore 6, 2) := by decide +kernel
theorem dX2_flawOf_65 : decode cX2_flawOf 65 = .ok (.iload_n 3, 1) := by decide +kernel
theorem dX2_flawOf_66 : decode cX2_flawOf 66 = .ok (.ifCond .eq 64, 3) := by decide +kernel
theorem dX2_flawOf_69 : decode cX2_flawOf 69 = .ok (.iload 8, 2) := by decide +kernel
theorem dX2_flawOf_71 : decode cX2_flawOf 71 = .ok (.bipush 40, 2) := by decide +kernel
theorem dX2_flawOf_73 : decode cX2_flawOf 73 = .ok (.if_icmp .ne 26, 3) := by decide +kernel
theorem dX2_flawOf_76 : decode cX2_flawOf 76 = .ok (.iload 4, 2) := by decide +kernel
theorem dX2_flawOf_78 : decode cX2_flawOf 78 = .ok (.iconst 4, 1) := by decide +kernel
theorem dX2_flawOf_79 : decode cX2_flawOf 79 = .ok (.if_icmp .ge 20, 3) := by decide +kernel
theorem dX2_flawOf_82 : decode cX2_flawOf 82 = .ok (.iinc 4 1, 3) := by decide +kernel
theorem dX2_flawOf_85 : decode cX2_flawOf 85 = .ok (.iload 5, 2) := by decide +kernel
theorem dX2_flawOf_87 : decode cX2_flawOf 87 = .ok (.iconst 1, 1) := by decide +kernel
theorem dX2_flawOf_88 : decode cX2_flawOf 88 = .ok (.iload 4, 2) := by decide +kernel
theorem dX2_flawOf_90 : decode cX2_flawOf 90 = .ok (.ishl, 1) := by decide +kernel
theorem dX2_flawOf_91 : decode cX2_flawOf 91 = .ok (.iconst (-1), 1) := by decide +kernel
theorem dX2_flawOf_92 : decode cX2_flawOf 92 = .ok (.ixor, 1) := by decide +kernel
theorem dX2_flawOf_93 : decode cX2_flawOf 93 = .ok (.iand, 1) := by decide +kernel
theorem dX2_flawOf_94 : decode cX2_flawOf 94 = .ok (.istore 5, 2) := by decide +kernel
theorem dX2_flawOf_96 : decode cX2_flawOf 96 = .ok (.goto 110, 3) := by decide +kernel
theorem dX2_flawOf_99 : decode cX2_flawOf 99 = .ok (.iload 8, 2) := by decide +kernel
theorem dX2_flawOf_101 : decode cX2_flawOf 101 = .ok (.invokestatic 49, 3) := by decide +kernel
theorem dX2_flawOf_104 : decode cX2_flawOf 104 = .ok (.ifCond .ne 11, 3) := by decide +kernel
theorem dX2_flawOf_107 : decode cX2_flawOf 107 = .ok (.iload 8, 2) := by decide +kernel
theorem dX2_flawOf_109 : decode cX2_flawOf 109 = .ok (.invokestatic 52, 3) := by decide +kernel
theorem dX2_flawOf_112 : decode cX2_flawOf 112 = .ok (.ifCond .eq 8, 3) := by decide +kernel
theorem dX2_flawOf_115 : decode cX2_flawOf 115 = .ok (.iconst 0, 1) := by decide +kernel
theorem dX2_flawOf_116 : decode cX2_flawOf 116 = .ok (.istore_n 3, 1) := by decide +kernel
theorem dX2_flawOf_117 : decode cX2_flawOf 117 = .ok (.goto 89, 3) := by decide +kernel
theorem dX2_flawOf_120 : decode cX2_flawOf 120 = .ok (.iload 8, 2) := by decide +kernel
theorem dX2_flawOf_122 : decode cX2_flawOf 122 = .ok (.bipush 45, 2) := by decide +kernel
theorem dX2_flawOf_124 : decode cX2_flawOf 124 = .ok (.if_icmp .eq 82, 3) := by decide +kernel
theorem dX2_flawOf_127 : decode cX2_flawOf 127 = .ok (.iload 7, 2) := by decide +kernel
theorem dX2_flawOf_129 : decode cX2_flawOf 129 = .ok (.ireturn, 1) := by decide +kernel
theorem dX2_flawOf_130 : decode cX2_flawOf 130 = .ok (.iload 8, 2) := by decide +kernel
theorem dX2_flawOf_132 : decode cX2_flawOf 132 = .ok (.invokestatic 55, 3) := by decide +kernel
theorem dX2_flawOf_135 : decode cX2_flawOf 135 = .ok (.ifCond .eq 38, 3) := by decide +kernel
theorem dX2_flawOf_138 : decode cX2_flawOf 138 = .ok (.iload 8, 2) := by decide +kernel
theorem dX2_flawOf_140 : decode cX2_flawOf 140 = .ok (.invokestatic 32, 3) := by decide +kernel
theorem dX2_flawOf_143 : decode cX2_flawOf 143 = .ok (.ifCond .eq 25, 3) := by decide +kernel
theorem dX2_flawOf_146 : decode cX2_flawOf 146 = .ok (.iload 5, 2) := by decide +kernel
theorem dX2_flawOf_148 : decode cX2_flawOf 148 = .ok (.iload 4, 2) := by decide +kernel
theorem dX2_flawOf_150 : decode cX2_flawOf 150 = .ok (.ishr, 1) := by decide +kernel
theorem dX2_flawOf_151 : decode cX2_flawOf 151 = .ok (.iconst 1, 1) := by decide +kernel
theorem dX2_flawOf_152 : decode cX2_flawOf 152 = .ok (.iand, 1) := by decide +kernel
theorem dX2_flawOf_153 : decode cX2_flawOf 153 = .ok (.ifCond .eq 6, 3) := by decide +kernel
theorem dX2_flawOf_156 : decode cX2_flawOf 156 = .ok (.iload 7, 2) := by decide +kernel
theorem dX2_flawOf_158 : decode cX2_flawOf 158 = .ok (.ireturn, 1) := by decide +kernel
theorem dX2_flawOf_159 : decode cX2_flawOf 159 = .ok (.iload 5, 2) := by decide +kernel
theorem dX2_flawOf_161 : decode cX2_flawOf 161 = .ok (.iconst 1, 1) := by decide +kernel
theorem dX2_flawOf_162 : decode cX2_flawOf 162 = .ok (.iload 4, 2) := by decide +kernel
theorem dX2_flawOf_164 : decode cX2_flawOf 164 = .ok (.ishl, 1) := by decide +kernel
theorem dX2_flawOf_165 : decode cX2_flawOf 165 = .ok (.ior, 1) := by decide +kernel
theorem dX2_flawOf_166 : decode cX2_flawOf 166 = .ok (.istore 5, 2) := by decide +kernel
theorem dX2_flawOf_168 : decode cX2_flawOf 168 = .ok (.iconst 1, 1) := by decide +kernel
theorem dX2_flawOf_169 : decode cX2_flawOf 169 = .ok (.istore_n 3, 1) := by decide +kernel
theorem dX2_flawOf_170 : decode cX2_flawOf 170 = .ok (.goto 36, 3) := by decide +kernel
theorem dX2_flawOf_173 : decode cX2_flawOf 173 = .ok (.iload 8, 2) := by decide +kernel
theorem dX2_flawOf_175 : decode cX2_flawOf 175 = .ok (.bipush 41, 2) := by decide +kernel
theorem dX2_flawOf_177 : decode cX2_flawOf 177 = .ok (.if_icmp .ne 14, 3) := by decide +kernel
theorem dX2_flawOf_180 : decode cX2_flawOf 180 = .ok (.iload 4, 2) := by decide +kernel
theorem dX2_flawOf_182 : decode cX2_flawOf 182 = .ok (.ifCond .le 9, 3) := by decide +kernel
theorem dX2_flawOf_185 : decode cX2_flawOf 185 = .ok (.iinc 4 (-1), 3) := by decide +kernel
theorem dX2_flawOf_188 : decode cX2_flawOf 188 = .ok (.goto 18, 3) := by decide +kernel
theorem dX2_flawOf_191 : decode cX2_flawOf 191 = .ok (.iload 6, 2) := by decide +kernel
theorem dX2_flawOf_193 : decode cX2_flawOf 193 = .ok (.iconst 2, 1) := by decide +kernel
theorem dX2_flawOf_194 : decode cX2_flawOf 194 = .ok (.if_icmp .lt 9, 3) := by decide +kernel
theorem dX2_flawOf_197 : decode cX2_flawOf 197 = .ok (.iload 6, 2) := by decide +kernel
theorem dX2_flawOf_199 : decode cX2_flawOf 199 = .ok (.iconst 3, 1) := by decide +kernel
theorem dX2_flawOf_200 : decode cX2_flawOf 200 = .ok (.if_icmp .le 6, 3) := by decide +kernel
theorem dX2_flawOf_203 : decode cX2_flawOf 203 = .ok (.iload 7, 2) := by decide +kernel
theorem dX2_flawOf_205 : decode cX2_flawOf 205 = .ok (.ireturn, 1) := by decide +kernel
theorem dX2_flawOf_206 : decode cX2_flawOf 206 = .ok (.iinc 7 1, 3) := by decide +kernel
theorem dX2_flawOf_209 : decode cX2_flawOf 209 = .ok (.goto (-176), 3) := by decide +kernel
theorem dX2_flawOf_212 : decode cX2_flawOf 212 = .ok (.aload_n 1, 1) := by decide +kernel
theorem dX2_flawOf_213 : decode cX2_flawOf 213 = .ok (.bipush 40, 2) := by decide +kernel
theorem dX2_flawOf_215 : decode cX2_flawOf 215 = .ok (.iload_n 3, 1) := by decide +kernel
theorem dX2_flawOf_216 : decode cX2_flawOf 216 = .ok (.ifCond .ne 12, 3) := by decide +kernel
theorem dX2_flawOf_219 : decode cX2_flawOf 219 = .ok (.iload 4, 2) := by decide +kernel
theorem dX2_flawOf_221 : decode cX2_flawOf 221 = .ok (.ifCond .ne 7, 3) := by decide +kernel
theorem dX2_flawOf_224 : decode cX2_flawOf 224 = .ok (.iconst 1, 1) := by decide +kernel
theorem dX2_flawOf_225 : decode cX2_flawOf 225 = .ok (.goto 4, 3) := by decide +kernel
theorem dX2_flawOf_228 : decode cX2_flawOf 228 = .ok (.iconst 0, 1) := by decide +kernel
theorem dX2_flawOf_229 : decode cX2_flawOf 229 = .ok (.invokevirtual 58, 3) := by decide +kernel
theorem dX2_flawOf_232 : decode cX2_flawOf 232 = .ok (.ireturn, 1) := by decide +kernel
theorem dX2_take_0 : decode cX2_take 0 = .ok (.aload_n 0, 1) := by decide +kernel
theorem dX2_take_1 : decode cX2_take 1 = .ok (.iconst 0, 1) := by decide +kernel
theorem dX2_take_2 : decode cX2_take 2 = .ok (.putfield 21, 3) := by decide +kernel
theorem dX2_take_5 : decode cX2_take 5 = .ok (.aload_n 0, 1) := by decide +kernel
theorem dX2_take_6 : decode cX2_take 6 = .ok (.iconst 0, 1) := by decide +kernel
theorem dX2_take_7 : decode cX2_take 7 = .ok (.putfield 25, 3) := by decide +kernel
theorem dX2_take_10 : decode cX2_take 10 = .ok (.aload_n 0, 1) := by decide +kernel
theorem dX2_take_11 : decode cX2_take 11 = .ok (.iconst 0, 1) := by decide +kernel
theorem dX2_take_12 : decode cX2_take 12 = .ok (.putfield 28, 3) := by decide +kernel
theorem dX2_take_15 : decode cX2_take 15 = .ok (.iconst 1, 1) := by decide +kernel
theorem dX2_take_16 : decode cX2_take 16 = .ok (.istore_n 2, 1) := by decide +kernel
theorem dX2_take_17 : decode cX2_take 17 = .ok (.iconst 0, 1) := by decide +kernel
theorem dX2_take_18 : decode cX2_take 18 = .ok (.istore_n 3, 1) := by decide +kernel
theorem dX2_take_19 : decode cX2_take 19 = .ok (.iload_n 3, 1) := by decide +kernel
theorem dX2_take_20 : decode cX2_take 20 = .ok (.aload_n 1, 1) := by decide +kernel
theorem dX2_take_21 : decode cX2_take 21 = .ok (.getfield 36, 3) := by decide +kernel
theorem dX2_take_24 : decode cX2_take 24 = .ok (.if_icmp .ge 163, 3) := by decide +kernel
theorem dX2_take_27 : decode cX2_take 27 = .ok (.aload_n 1, 1) := by decide +kernel
theorem dX2_take_28 : decode cX2_take 28 = .ok (.iload_n 3, 1) := by decide +kernel
theorem dX2_take_29 : decode cX2_take 29 = .ok (.invokevirtual 45, 3) := by decide +kernel
theorem dX2_take_32 : decode cX2_take 32 = .ok (.istore 4, 2) := by decide +kernel
theorem dX2_take_34 : decode cX2_take 34 = .ok (.iload 4, 2) := by decide +kernel
theorem dX2_take_36 : decode cX2_take 36 = .ok (.invokestatic 49, 3) := by decide +kernel
theorem dX2_take_39 : decode cX2_take 39 = .ok (.ifCond .eq 26, 3) := by decide +kernel
theorem dX2_take_42 : decode cX2_take 42 = .ok (.aload_n 0, 1) := by decide +kernel
theorem dX2_take_43 : decode cX2_take 43 = .ok (.iload 4, 2) := by decide +kernel
theorem dX2_take_45 : decode cX2_take 45 = .ok (.bipush 48, 2) := by decide +kernel
theorem dX2_take_47 : decode cX2_take 47 = .ok (.isub, 1) := by decide +kernel
theorem dX2_take_48 : decode cX2_take 48 = .ok (.iload_n 2, 1) := by decide +kernel
theorem dX2_take_49 : decode cX2_take 49 = .ok (.ifCond .ne 7, 3) := by decide +kernel
theorem dX2_take_52 : decode cX2_take 52 = .ok (.iconst 1, 1) := by decide +kernel
theorem dX2_take_53 : decode cX2_take 53 = .ok (.goto 4, 3) := by decide +kernel
theorem dX2_take_56 : decode cX2_take 56 = .ok (.iconst 0, 1) := by decide +kernel
theorem dX2_take_57 : decode cX2_take 57 = .ok (.invokevirtual 62, 3) := by decide +kernel
theorem dX2_take_60 : decode cX2_take 60 = .ok (.iconst 0, 1) := by decide +kernel
theorem dX2_take_61 : decode cX2_take 61 = .ok (.istore_n 2, 1) := by decide +kernel
theorem dX2_take_62 : decode cX2_take 62 = .ok (.goto 119, 3) := by decide +kernel
theorem dX2_take_65 : decode cX2_take 65 = .ok (.iload 4, 2) := by decide +kernel
theorem dX2_take_67 : decode cX2_take 67 = .ok (.invokestatic 52, 3) := by decide +kernel
theorem dX2_take_70 : decode cX2_take 70 = .ok (.ifCond .eq 36, 3) := by decide +kernel
theorem dX2_take_73 : decode cX2_take 73 = .ok (.aload_n 0, 1) := by decide +kernel
theorem dX2_take_74 : decode cX2_take 74 = .ok (.iload 4, 2) := by decide +kernel
theorem dX2_take_76 : decode cX2_take 76 = .ok (.ineg, 1) := by decide +kernel
theorem dX2_take_77 : decode cX2_take 77 = .ok (.invokevirtual 66, 3) := by decide +kernel
theorem dX2_take_80 : decode cX2_take 80 = .ok (.aload_n 0, 1) := by decide +kernel
theorem dX2_take_81 : decode cX2_take 81 = .ok (.dup, 1) := by decide +kernel
theorem dX2_take_82 : decode cX2_take 82 = .ok (.getfield 28, 3) := by decide +kernel
theorem dX2_take_85 : decode cX2_take 85 = .ok (.iload 4, 2) := by decide +kernel
theorem dX2_take_87 : decode cX2_take 87 = .ok (.bipush 114, 2) := by decide +kernel
theorem dX2_take_89 : decode cX2_take 89 = .ok (.if_icmp .ne 7, 3) := by decide +kernel
theorem dX2_take_92 : decode cX2_take 92 = .ok (.iconst 1, 1) := by decide +kernel
theorem dX2_take_93 : decode cX2_take 93 = .ok (.goto 4, 3) := by decide +kernel
theorem dX2_take_96 : decode cX2_take 96 = .ok (.iconst 0, 1) := by decide +kernel
theorem dX2_take_97 : decode cX2_take 97 = .ok (.ior, 1) := by decide +kernel
theorem dX2_take_98 : decode cX2_take 98 = .ok (.putfield 28, 3) := by decide +kernel
theorem dX2_take_101 : decode cX2_take 101 = .ok (.iconst 0, 1) := by decide +kernel
theorem dX2_take_102 : decode cX2_take 102 = .ok (.istore_n 2, 1) := by decide +kernel
theorem dX2_take_103 : decode cX2_take 103 = .ok (.goto 78, 3) := by decide +kernel
theorem dX2_take_106 : decode cX2_take 106 = .ok (.iload 4, 2) := by decide +kernel
theorem dX2_take_108 : decode cX2_take 108 = .ok (.bipush 40, 2) := by decide +kernel
theorem dX2_take_110 : decode cX2_take 110 = .ok (.if_icmp .ne 12, 3) := by decide +kernel
theorem dX2_take_113 : decode cX2_take 113 = .ok (.aload_n 0, 1) := by decide +kernel
theorem dX2_take_114 : decode cX2_take 114 = .ok (.iload 4, 2) := by decide +kernel
theorem dX2_take_116 : decode cX2_take 116 = .ok (.invokevirtual 70, 3) := by decide +kernel
theorem dX2_take_119 : decode cX2_take 119 = .ok (.goto 62, 3) := by decide +kernel
theorem dX2_take_122 : decode cX2_take 122 = .ok (.iload 4, 2) := by decide +kernel
theorem dX2_take_124 : decode cX2_take 124 = .ok (.bipush 41, 2) := by decide +kernel
theorem dX2_take_126 : decode cX2_take 126 = .ok (.if_icmp .ne 25, 3) := by decide +kernel
theorem dX2_take_129 : decode cX2_take 129 = .ok (.aload_n 0, 1) := by decide +kernel
theorem dX2_take_130 : decode cX2_take 130 = .ok (.iconst 1, 1) := by decide +kernel
theorem dX2_take_131 : decode cX2_take 131 = .ok (.invokevirtual 73, 3) := by decide +kernel
theorem dX2_take_134 : decode cX2_take 134 = .ok (.aload_n 0, 1) := by decide +kernel
theorem dX2_take_135 : decode cX2_take 135 = .ok (.aload_n 0, 1) := by decide +kernel
theorem dX2_take_136 : decode cX2_take 136 = .ok (.getfield 25, 3) := by decide +kernel
theorem dX2_take_139 : decode cX2_take 139 = .ok (.iconst 1, 1) := by decide +kernel
theorem dX2_take_140 : decode cX2_take 140 = .ok (.isub, 1) := by decide +kernel
theorem dX2_take_141 : decode cX2_take 141 = .ok (.iconst 0, 1) := by decide +kernel
theorem dX2_take_142 : decode cX2_take 142 = .ok (.invokestatic 76, 3) := by decide +kernel
theorem dX2_take_145 : decode cX2_take 145 = .ok (.putfield 25, 3) := by decide +kernel
theorem dX2_take_148 : decode cX2_take 148 = .ok (.goto 33, 3) := by decide +kernel
theorem dX2_take_151 : decode cX2_take 151 = .ok (.iload_n 2, 1) := by decide +kernel
theorem dX2_take_152 : decode cX2_take 152 = .ok (.ifCond .eq 12, 3) := by decide +kernel
theorem dX2_take_155 : decode cX2_take 155 = .ok (.aload_n 0, 1) := by decide +kernel
theorem dX2_take_156 : decode cX2_take 156 = .ok (.bipush 126, 2) := by decide +kernel
theorem dX2_take_158 : decode cX2_take 158 = .ok (.invokevirtual 70, 3) := by decide +kernel
theorem dX2_take_161 : decode cX2_take 161 = .ok (.goto 20, 3) := by decide +kernel
theorem dX2_take_164 : decode cX2_take 164 = .ok (.aload_n 0, 1) := by decide +kernel
theorem dX2_take_165 : decode cX2_take 165 = .ok (.iload 4, 2) := by decide +kernel
theorem dX2_take_167 : decode cX2_take 167 = .ok (.invokestatic 79, 3) := by decide +kernel
theorem dX2_take_170 : decode cX2_take 170 = .ok (.invokevirtual 73, 3) := by decide +kernel
theorem dX2_take_173 : decode cX2_take 173 = .ok (.aload_n 0, 1) := by decide +kernel
theorem dX2_take_174 : decode cX2_take 174 = .ok (.iload 4, 2) := by decide +kernel
theorem dX2_take_176 : decode cX2_take 176 = .ok (.invokevirtual 70, 3) := by decide +kernel
theorem dX2_take_179 : decode cX2_take 179 = .ok (.iconst 1, 1) := by decide +kernel
theorem dX2_take_180 : decode cX2_take 180 = .ok (.istore_n 2, 1) := by decide +kernel
theorem dX2_take_181 : decode cX2_take 181 = .ok (.iinc 3 1, 3) := by decide +kernel
theorem dX2_take_184 : decode cX2_take 184 = .ok (.goto (-165), 3) := by decide +kernel
theorem dX2_take_187 : decode cX2_take 187 = .ok (.aload_n 0, 1) := by decide +kernel
theorem dX2_take_188 : decode cX2_take 188 = .ok (.iconst 1, 1) := by decide +kernel
theorem dX2_take_189 : decode cX2_take 189 = .ok (.invokevirtual 73, 3) := by decide +kernel
theorem dX2_take_192 : decode cX2_take 192 = .ok (.aload_n 0, 1) := by decide +kernel
theorem dX2_take_193 : decode cX2_take 193 = .ok (.getfield 21, 3) := by decide +kernel
theorem dX2_take_196 : decode cX2_take 196 = .ok (.ifCond .ne 9, 3) := by decide +kernel
theorem dX2_take_199 : decode cX2_take 199 = .ok (.aload_n 0, 1) := by decide +kernel
theorem dX2_take_200 : decode cX2_take 200 = .ok (.bipush (-119), 2) := by decide +kernel
theorem dX2_take_202 : decode cX2_take 202 = .ok (.invokevirtual 66, 3) := by decide +kernel
theorem dX2_take_205 : decode cX2_take 205 = .ok (.return_, 1) := by decide +kernel
theorem dX2_put_0 : decode cX2_put 0 = .ok (.aload_n 0, 1) := by decide +kernel
theorem dX2_put_1 : decode cX2_put 1 = .ok (.getfield 21, 3) := by decide +kernel
theorem dX2_put_4 : decode cX2_put 4 = .ok (.bipush 40, 2) := by decide +kernel
theorem dX2_put_6 : decode cX2_put 6 = .ok (.if_icmp .ge 23, 3) := by decide +kernel
theorem dX2_put_9 : decode cX2_put 9 = .ok (.aload_n 0, 1) := by decide +kernel
theorem dX2_put_10 : decode cX2_put 10 = .ok (.getfield 9, 3) := by decide +kernel
theorem dX2_put_13 : decode cX2_put 13 = .ok (.aload_n 0, 1) := by decide +kernel
theorem dX2_put_14 : decode cX2_put 14 = .ok (.getfield 21, 3) := by decide +kernel
theorem dX2_put_17 : decode cX2_put 17 = .ok (.iload_n 1, 1) := by decide +kernel
theorem dX2_put_18 : decode cX2_put 18 = .ok (.iastore, 1) := by decide +kernel
theorem dX2_put_19 : decode cX2_put 19 = .ok (.aload_n 0, 1) := by decide +kernel
theorem dX2_put_20 : decode cX2_put 20 = .ok (.dup, 1) := by decide +kernel
theorem dX2_put_21 : decode cX2_put 21 = .ok (.getfield 21, 3) := by decide +kernel
theorem dX2_put_24 : decode cX2_put 24 = .ok (.iconst 1, 1) := by decide +kernel
theorem dX2_put_25 : decode cX2_put 25 = .ok (.iadd, 1) := by decide +kernel
theorem dX2_put_26 : decode cX2_put 26 = .ok (.putfield 21, 3) := by decide +kernel
theorem dX2_put_29 : decode cX2_put 29 = .ok (.return_, 1) := by decide +kernel
theorem dX2_putDigit_0 : decode cX2_putDigit 0 = .ok (.iload_n 2, 1) := by decide +kernel
theorem dX2_putDigit_1 : decode cX2_putDigit 1 = .ok (.ifCond .eq 40, 3) := by decide +kernel
theorem dX2_putDigit_4 : decode cX2_putDigit 4 = .ok (.aload_n 0, 1) := by decide +kernel
theorem dX2_putDigit_5 : decode cX2_putDigit 5 = .ok (.getfield 21, 3) := by decide +kernel
theorem dX2_putDigit_8 : decode cX2_putDigit 8 = .ok (.ifCond .le 33, 3) := by decide +kernel
theorem dX2_putDigit_11 : decode cX2_putDigit 11 = .ok (.aload_n 0, 1) := by decide +kernel
theorem dX2_putDigit_12 : decode cX2_putDigit 12 = .ok (.getfield 9, 3) := by decide +kernel
theorem dX2_putDigit_15 : decode cX2_putDigit 15 = .ok (.aload_n 0, 1) := by decide +kernel
theorem dX2_putDigit_16 : decode cX2_putDigit 16 = .ok (.getfield 21, 3) := by decide +kernel
theorem dX2_putDigit_19 : decode cX2_putDigit 19 = .ok (.iconst 1, 1) := by decide +kernel
theorem dX2_putDigit_20 : decode cX2_putDigit 20 = .ok (.isub, 1) := by decide +kernel
theorem dX2_putDigit_21 : decode cX2_putDigit 21 = .ok (.aload_n 0, 1) := by decide +kernel
theorem dX2_putDigit_22 : decode cX2_putDigit 22 = .ok (.getfield 9, 3) := by decide +kernel
theorem dX2_putDigit_25 : decode cX2_putDigit 25 = .ok (.aload_n 0, 1) := by decide +kernel
theorem dX2_putDigit_26 : decode cX2_putDigit 26 = .ok (.getfield 21, 3) := by decide +kernel
theorem dX2_putDigit_29 : decode cX2_putDigit 29 = .ok (.iconst 1, 1) := by decide +kernel
theorem dX2_putDigit_30 : decode cX2_putDigit 30 = .ok (.isub, 1) := by decide +kernel
theorem dX2_putDigit_31 : decode cX2_putDigit 31 = .ok (.iaload, 1) := by decide +kernel
theorem dX2_putDigit_32 : decode cX2_putDigit 32 = .ok (.bipush 10, 2) := by decide +kernel
theorem dX2_putDigit_34 : decode cX2_putDigit 34 = .ok (.imul, 1) := by decide +kernel
theorem dX2_putDigit_35 : decode cX2_putDigit 35 = .ok (.iload_n 1, 1) := by decide +kernel
theorem dX2_putDigit_36 : decode cX2_putDigit 36 = .ok (.iadd, 1) := by decide +kernel
theorem dX2_putDigit_37 : decode cX2_putDigit 37 = .ok (.iastore, 1) := by decide +kernel
theorem dX2_putDigit_38 : decode cX2_putDigit 38 = .ok (.goto 8, 3) := by decide +kernel
theorem dX2_putDigit_41 : decode cX2_putDigit 41 = .ok (.aload_n 0, 1) := by decide +kernel
theorem dX2_putDigit_42 : decode cX2_putDigit 42 = .ok (.iload_n 1, 1) := by decide +kernel
theorem dX2_putDigit_43 : decode cX2_putDigit 43 = .ok (.invokevirtual 66, 3) := by decide +kernel
theorem dX2_putDigit_46 : decode cX2_putDigit 46 = .ok (.return_, 1) := by decide +kernel
theorem dX2_await_0 : decode cX2_await 0 = .ok (.aload_n 0, 1) := by decide +kernel
theorem dX2_await_1 : decode cX2_await 1 = .ok (.getfield 25, 3) := by decide +kernel
theorem dX2_await_4 : decode cX2_await 4 = .ok (.bipush 40, 2) := by decide +kernel
theorem dX2_await_6 : decode cX2_await 6 = .ok (.if_icmp .ge 23, 3) := by decide +kernel
theorem dX2_await_9 : decode cX2_await 9 = .ok (.aload_n 0, 1) := by decide +kernel
theorem dX2_await_10 : decode cX2_await 10 = .ok (.getfield 15, 3) := by decide +kernel
theorem dX2_await_13 : decode cX2_await 13 = .ok (.aload_n 0, 1) := by decide +kernel
theorem dX2_await_14 : decode cX2_await 14 = .ok (.getfield 25, 3) := by decide +kernel
theorem dX2_await_17 : decode cX2_await 17 = .ok (.iload_n 1, 1) := by decide +kernel
theorem dX2_await_18 : decode cX2_await 18 = .ok (.iastore, 1) := by decide +kernel
theorem dX2_await_19 : decode cX2_await 19 = .ok (.aload_n 0, 1) := by decide +kernel
theorem dX2_await_20 : decode cX2_await 20 = .ok (.dup, 1) := by decide +kernel
theorem dX2_await_21 : decode cX2_await 21 = .ok (.getfield 25, 3) := by decide +kernel
theorem dX2_await_24 : decode cX2_await 24 = .ok (.iconst 1, 1) := by decide +kernel
theorem dX2_await_25 : decode cX2_await 25 = .ok (.iadd, 1) := by decide +kernel
theorem dX2_await_26 : decode cX2_await 26 = .ok (.putfield 25, 3) := by decide +kernel
theorem dX2_await_29 : decode cX2_await 29 = .ok (.return_, 1) := by decide +kernel
theorem dX2_release_0 : decode cX2_release 0 = .ok (.aload_n 0, 1) := by decide +kernel
theorem dX2_release_1 : decode cX2_release 1 = .ok (.getfield 25, 3) := by decide +kernel
theorem dX2_release_4 : decode cX2_release 4 = .ok (.ifCond .le 48, 3) := by decide +kernel
theorem dX2_release_7 : decode cX2_release 7 = .ok (.aload_n 0, 1) := by decide +kernel
theorem dX2_release_8 : decode cX2_release 8 = .ok (.getfield 15, 3) := by decide +kernel
theorem dX2_release_11 : decode cX2_release 11 = .ok (.aload_n 0, 1) := by decide +kernel
theorem dX2_release_12 : decode cX2_release 12 = .ok (.getfield 25, 3) := by decide +kernel
theorem dX2_release_15 : decode cX2_release 15 = .ok (.iconst 1, 1) := by decide +kernel
theorem dX2_release_16 : decode cX2_release 16 = .ok (.isub, 1) := by decide +kernel
theorem dX2_release_17 : decode cX2_release 17 = .ok (.iaload, 1) := by decide +kernel
theorem dX2_release_18 : decode cX2_release 18 = .ok (.invokestatic 79, 3) := by decide +kernel
theorem dX2_release_21 : decode cX2_release 21 = .ok (.iload_n 1, 1) := by decide +kernel
theorem dX2_release_22 : decode cX2_release 22 = .ok (.if_icmp .lt 30, 3) := by decide +kernel
theorem dX2_release_25 : decode cX2_release 25 = .ok (.aload_n 0, 1) := by decide +kernel
theorem dX2_release_26 : decode cX2_release 26 = .ok (.dup, 1) := by decide +kernel
theorem dX2_release_27 : decode cX2_release 27 = .ok (.getfield 25, 3) := by decide +kernel
theorem dX2_release_30 : decode cX2_release 30 = .ok (.iconst 1, 1) := by decide +kernel
theorem dX2_release_31 : decode cX2_release 31 = .ok (.isub, 1) := by decide +kernel
theorem dX2_release_32 : decode cX2_release 32 = .ok (.putfield 25, 3) := by decide +kernel
theorem dX2_release_35 : decode cX2_release 35 = .ok (.aload_n 0, 1) := by decide +kernel
theorem dX2_release_36 : decode cX2_release 36 = .ok (.aload_n 0, 1) := by decide +kernel
theorem dX2_release_37 : decode cX2_release 37 = .ok (.getfield 15, 3) := by decide +kernel
theorem dX2_release_40 : decode cX2_release 40 = .ok (.aload_n 0, 1) := by decide +kernel
theorem dX2_release_41 : decode cX2_release 41 = .ok (.getfield 25, 3) := by decide +kernel
theorem dX2_release_44 : decode cX2_release 44 = .ok (.iaload, 1) := by decide +kernel
theorem dX2_release_45 : decode cX2_release 45 = .ok (.ineg, 1) := by decide +kernel
theorem dX2_release_46 : decode cX2_release 46 = .ok (.invokevirtual 66, 3) := by decide +kernel
theorem dX2_release_49 : decode cX2_release 49 = .ok (.goto (-49), 3) := by decide +kernel
theorem dX2_release_52 : decode cX2_release 52 = .ok (.return_, 1) := by decide +kernel
theorem dX2_worth_0 : decode cX2_worth 0 = .ok (.iconst 0, 1) := by decide +kernel
theorem dX2_worth_1 : decode cX2_worth 1 = .ok (.istore_n 3, 1) := by decide +kernel
theorem dX2_worth_2 : decode cX2_worth 2 = .ok (.iconst 0, 1) := by decide +kernel
theorem dX2_worth_3 : decode cX2_worth 3 = .ok (.istore 4, 2) := by decide +kernel
theorem dX2_worth_5 : decode cX2_worth 5 = .ok (.iload 4, 2) := by decide +kernel
theorem dX2_worth_7 : decode cX2_worth 7 = .ok (.aload_n 0, 1) := by decide +kernel
theorem dX2_worth_8 : decode cX2_worth 8 = .ok (.getfield 21, 3) := by decide +kernel
theorem dX2_worth_11 : decode cX2_worth 11 = .ok (.if_icmp .ge 133, 3) := by decide +kernel
theorem dX2_worth_14 : decode cX2_worth 14 = .ok (.aload_n 0, 1) := by decide +kernel
theorem dX2_worth_15 : decode cX2_worth 15 = .ok (.getfield 9, 3) := by decide +kernel
theorem dX2_worth_18 : decode cX2_worth 18 = .ok (.iload 4, 2) := by decide +kernel
theorem dX2_worth_20 : decode cX2_worth 20 = .ok (.iaload, 1) := by decide +kernel
theorem dX2_worth_21 : decode cX2_worth 21 = .ok (.istore 5, 2) := by decide +kernel
theorem dX2_worth_23 : decode cX2_worth 23 = .ok (.iload 5, 2) := by decide +kernel
theorem dX2_worth_25 : decode cX2_worth 25 = .ok (.ifCond .lt 17, 3) := by decide +kernel
theorem dX2_worth_28 : decode cX2_worth 28 = .ok (.aload_n 0, 1) := by decide +kernel
theorem dX2_worth_29 : decode cX2_worth 29 = .ok (.getfield 18, 3) := by decide +kernel
theorem dX2_worth_32 : decode cX2_worth 32 = .ok (.iload_n 3, 1) := by decide +kernel
theorem dX2_worth_33 : decode cX2_worth 33 = .ok (.iload 5, 2) := by decide +kernel
theorem dX2_worth_35 : decode cX2_worth 35 = .ok (.iastore, 1) := by decide +kernel
theorem dX2_worth_36 : decode cX2_worth 36 = .ok (.iinc 3 1, 3) := by decide +kernel
theorem dX2_worth_39 : decode cX2_worth 39 = .ok (.goto 99, 3) := by decide +kernel
theorem dX2_worth_42 : decode cX2_worth 42 = .ok (.iload 5, 2) := by decide +kernel
theorem dX2_worth_44 : decode cX2_worth 44 = .ok (.ineg, 1) := by decide +kernel
theorem dX2_worth_45 : decode cX2_worth 45 = .ok (.invokestatic 52, 3) := by decide +kernel
theorem dX2_worth_48 : decode cX2_worth 48 = .ok (.ifCond .eq 23, 3) := by decide +kernel
theorem dX2_worth_51 : decode cX2_worth 51 = .ok (.aload_n 0, 1) := by decide +kernel
theorem dX2_worth_52 : decode cX2_worth 52 = .ok (.getfield 18, 3) := by decide +kernel
theorem dX2_worth_55 : decode cX2_worth 55 = .ok (.iload_n 3, 1) := by decide +kernel
theorem dX2_worth_56 : decode cX2_worth 56 = .ok (.iload 5, 2) := by decide +kernel
theorem dX2_worth_58 : decode cX2_worth 58 = .ok (.ineg, 1) := by decide +kernel
theorem dX2_worth_59 : decode cX2_worth 59 = .ok (.aload_n 1, 1) := by decide +kernel
theorem dX2_worth_60 : decode cX2_worth 60 = .ok (.iload_n 2, 1) := by decide +kernel
theorem dX2_worth_61 : decode cX2_worth 61 = .ok (.invokestatic 82, 3) := by decide +kernel
theorem dX2_worth_64 : decode cX2_worth 64 = .ok (.iastore, 1) := by decide +kernel
theorem dX2_worth_65 : decode cX2_worth 65 = .ok (.iinc 3 1, 3) := by decide +kernel
theorem dX2_worth_68 : decode cX2_worth 68 = .ok (.goto 70, 3) := by decide +kernel
theorem dX2_worth_71 : decode cX2_worth 71 = .ok (.iload 5, 2) := by decide +kernel
theorem dX2_worth_73 : decode cX2_worth 73 = .ok (.bipush (-126), 2) := by decide +kernel
theorem dX2_worth_75 : decode cX2_worth 75 = .ok (.if_icmp .ne 27, 3) := by decide +kernel
theorem dX2_worth_78 : decode cX2_worth 78 = .ok (.iload_n 3, 1) := by decide +kernel
theorem dX2_worth_79 : decode cX2_worth 79 = .ok (.ifCond .le 23, 3) := by decide +kernel
theorem dX2_worth_82 : decode cX2_worth 82 = .ok (.aload_n 0, 1) := by decide +kernel
theorem dX2_worth_83 : decode cX2_worth 83 = .ok (.getfield 18, 3) := by decide +kernel
theorem dX2_worth_86 : decode cX2_worth 86 = .ok (.iload_n 3, 1) := by decide +kernel
theorem dX2_worth_87 : decode cX2_worth 87 = .ok (.iconst 1, 1) := by decide +kernel
theorem dX2_worth_88 : decode cX2_worth 88 = .ok (.isub, 1) := by decide +kernel
theorem dX2_worth_89 : decode cX2_worth 89 = .ok (.aload_n 0, 1) := by decide +kernel
theorem dX2_worth_90 : decode cX2_worth 90 = .ok (.getfield 18, 3) := by decide +kernel
theorem dX2_worth_93 : decode cX2_worth 93 = .ok (.iload_n 3, 1) := by decide +kernel
theorem dX2_worth_94 : decode cX2_worth 94 = .ok (.iconst 1, 1) := by decide +kernel
theorem dX2_worth_95 : decode cX2_worth 95 = .ok (.isub, 1) := by decide +kernel
theorem dX2_worth_96 : decode cX2_worth 96 = .ok (.iaload, 1) := by decide +kernel
theorem dX2_worth_97 : decode cX2_worth 97 = .ok (.ineg, 1) := by decide +kernel
theorem dX2_worth_98 : decode cX2_worth 98 = .ok (.iastore, 1) := by decide +kernel
theorem dX2_worth_99 : decode cX2_worth 99 = .ok (.goto 39, 3) := by decide +kernel
theorem dX2_worth_102 : decode cX2_worth 102 = .ok (.iload_n 3, 1) := by decide +kernel
theorem dX2_worth_103 : decode cX2_worth 103 = .ok (.iconst 1, 1) := by decide +kernel
theorem dX2_worth_104 : decode cX2_worth 104 = .ok (.if_icmp .le 34, 3) := by decide +kernel
theorem dX2_worth_107 : decode cX2_worth 107 = .ok (.iinc 3 (-1), 3) := by decide +kernel
theorem dX2_worth_110 : decode cX2_worth 110 = .ok (.aload_n 0, 1) := by decide +kernel
theorem dX2_worth_111 : decode cX2_worth 111 = .ok (.getfield 18, 3) := by decide +kernel
theorem dX2_worth_114 : decode cX2_worth 114 = .ok (.iload_n 3, 1) := by decide +kernel
theorem dX2_worth_115 : decode cX2_worth 115 = .ok (.iconst 1, 1) := by decide +kernel
theorem dX2_worth_116 : decode cX2_worth 116 = .ok (.isub, 1) := by decide +kernel
theorem dX2_worth_117 : decode cX2_worth 117 = .ok (.iload 5, 2) := by decide +kernel
theorem dX2_worth_119 : decode cX2_worth 119 = .ok (.ineg, 1) := by decide +kernel
theorem dX2_worth_120 : decode cX2_worth 120 = .ok (.aload_n 0, 1) := by decide +kernel
theorem dX2_worth_121 : decode cX2_worth 121 = .ok (.getfield 18, 3) := by decide +kernel
theorem dX2_worth_124 : decode cX2_worth 124 = .ok (.iload_n 3, 1) := by decide +kernel
theorem dX2_worth_125 : decode cX2_worth 125 = .ok (.iconst 1, 1) := by decide +kernel
theorem dX2_worth_126 : decode cX2_worth 126 = .ok (.isub, 1) := by decide +kernel
theorem dX2_worth_127 : decode cX2_worth 127 = .ok (.iaload, 1) := by decide +kernel
theorem dX2_worth_128 : decode cX2_worth 128 = .ok (.aload_n 0, 1) := by decide +kernel
theorem dX2_worth_129 : decode cX2_worth 129 = .ok (.getfield 18, 3) := by decide +kernel
theorem dX2_worth_132 : decode cX2_worth 132 = .ok (.iload_n 3, 1) := by decide +kernel
theorem dX2_worth_133 : decode cX2_worth 133 = .ok (.iaload, 1) := by decide +kernel
theorem dX2_worth_134 : decode cX2_worth 134 = .ok (.invokestatic 86, 3) := by decide +kernel
theorem dX2_worth_137 : decode cX2_worth 137 = .ok (.iastore, 1) := by decide +kernel
theorem dX2_worth_138 : decode cX2_worth 138 = .ok (.iinc 4 1, 3) := by decide +kernel
theorem dX2_worth_141 : decode cX2_worth 141 = .ok (.goto (-136), 3) := by decide +kernel
theorem dX2_worth_144 : decode cX2_worth 144 = .ok (.aload_n 0, 1) := by decide +kernel
theorem dX2_worth_145 : decode cX2_worth 145 = .ok (.getfield 18, 3) := by decide +kernel
theorem dX2_worth_148 : decode cX2_worth 148 = .ok (.iconst 0, 1) := by decide +kernel
theorem dX2_worth_149 : decode cX2_worth 149 = .ok (.iaload, 1) := by decide +kernel
theorem dX2_worth_150 : decode cX2_worth 150 = .ok (.ireturn, 1) := by decide +kernel
theorem dX2_named_0 : decode cX2_named 0 = .ok (.iload_n 0, 1) := by decide +kernel
theorem dX2_named_1 : decode cX2_named 1 = .ok (.tableswitch 173 100 119 #[118, 173, 95, 173, 173, 173, 173, 173, 173, 173, 163, 173, 173, 173, 168, 142, 173, 173, 173, 97], 95) := by decide +kernel
theorem dX2_named_96 : decode cX2_named 96 = .ok (.iload_n 2, 1) := by decide +kernel
theorem dX2_named_97 : decode cX2_named 97 = .ok (.ireturn, 1) := by decide +kernel
theorem dX2_named_98 : decode cX2_named 98 = .ok (.iload_n 2, 1) := by decide +kernel
theorem dX2_named_99 : decode cX2_named 99 = .ok (.ifCond .lt 18, 3) := by decide +kernel
theorem dX2_named_102 : decode cX2_named 102 = .ok (.iload_n 2, 1) := by decide +kernel
theorem dX2_named_103 : decode cX2_named 103 = .ok (.bipush 9, 2) := by decide +kernel
theorem dX2_named_105 : decode cX2_named 105 = .ok (.if_icmp .ge 12, 3) := by decide +kernel
theorem dX2_named_108 : decode cX2_named 108 = .ok (.aload_n 1, 1) := by decide +kernel
theorem dX2_named_109 : decode cX2_named 109 = .ok (.getfield 90, 3) := by decide +kernel
theorem dX2_named_112 : decode cX2_named 112 = .ok (.iload_n 2, 1) := by decide +kernel
theorem dX2_named_113 : decode cX2_named 113 = .ok (.iaload, 1) := by decide +kernel
theorem dX2_named_114 : decode cX2_named 114 = .ok (.goto 4, 3) := by decide +kernel
theorem dX2_named_117 : decode cX2_named 117 = .ok (.iconst 0, 1) := by decide +kernel
theorem dX2_named_118 : decode cX2_named 118 = .ok (.ireturn, 1) := by decide +kernel
theorem dX2_named_119 : decode cX2_named 119 = .ok (.iload_n 2, 1) := by decide +kernel
theorem dX2_named_120 : decode cX2_named 120 = .ok (.aload_n 1, 1) := by decide +kernel
theorem dX2_named_121 : decode cX2_named 121 = .ok (.getfield 95, 3) := by decide +kernel
theorem dX2_named_124 : decode cX2_named 124 = .ok (.if_icmp .ge 12, 3) := by decide +kernel
theorem dX2_named_127 : decode cX2_named 127 = .ok (.aload_n 1, 1) := by decide +kernel
theorem dX2_named_128 : decode cX2_named 128 = .ok (.getfield 95, 3) := by decide +kernel
theorem dX2_named_131 : decode cX2_named 131 = .ok (.iload_n 2, 1) := by decide +kernel
theorem dX2_named_132 : decode cX2_named 132 = .ok (.isub, 1) := by decide +kernel
theorem dX2_named_133 : decode cX2_named 133 = .ok (.goto 9, 3) := by decide +kernel
theorem dX2_named_136 : decode cX2_named 136 = .ok (.iload_n 2, 1) := by decide +kernel
theorem dX2_named_137 : decode cX2_named 137 = .ok (.aload_n 1, 1) := by decide +kernel
theorem dX2_named_138 : decode cX2_named 138 = .ok (.getfield 95, 3) := by decide +kernel
theorem dX2_named_141 : decode cX2_named 141 = .ok (.isub, 1) := by decide +kernel
theorem dX2_named_142 : decode cX2_named 142 = .ok (.ireturn, 1) := by decide +kernel
theorem dX2_named_143 : decode cX2_named 143 = .ok (.iload_n 2, 1) := by decide +kernel
theorem dX2_named_144 : decode cX2_named 144 = .ok (.ifCond .lt 18, 3) := by decide +kernel
theorem dX2_named_147 : decode cX2_named 147 = .ok (.iload_n 2, 1) := by decide +kernel
theorem dX2_named_148 : decode cX2_named 148 = .ok (.bipush 9, 2) := by decide +kernel
theorem dX2_named_150 : decode cX2_named 150 = .ok (.if_icmp .ge 12, 3) := by decide +kernel
theorem dX2_named_153 : decode cX2_named 153 = .ok (.aload_n 1, 1) := by decide +kernel
theorem dX2_named_154 : decode cX2_named 154 = .ok (.getfield 98, 3) := by decide +kernel
theorem dX2_named_157 : decode cX2_named 157 = .ok (.iload_n 2, 1) := by decide +kernel
theorem dX2_named_158 : decode cX2_named 158 = .ok (.iaload, 1) := by decide +kernel
theorem dX2_named_159 : decode cX2_named 159 = .ok (.goto 4, 3) := by decide +kernel
theorem dX2_named_162 : decode cX2_named 162 = .ok (.iconst 0, 1) := by decide +kernel
theorem dX2_named_163 : decode cX2_named 163 = .ok (.ireturn, 1) := by decide +kernel
theorem dX2_named_164 : decode cX2_named 164 = .ok (.aload_n 1, 1) := by decide +kernel
theorem dX2_named_165 : decode cX2_named 165 = .ok (.getfield 101, 3) := by decide +kernel
theorem dX2_named_168 : decode cX2_named 168 = .ok (.ireturn, 1) := by decide +kernel
theorem dX2_named_169 : decode cX2_named 169 = .ok (.aload_n 1, 1) := by decide +kernel
theorem dX2_named_170 : decode cX2_named 170 = .ok (.getfield 104, 3) := by decide +kernel
theorem dX2_named_173 : decode cX2_named 173 = .ok (.ireturn, 1) := by decide +kernel
theorem dX2_named_174 : decode cX2_named 174 = .ok (.aload_n 1, 1) := by decide +kernel
theorem dX2_named_175 : decode cX2_named 175 = .ok (.getfield 95, 3) := by decide +kernel
theorem dX2_named_178 : decode cX2_named 178 = .ok (.ireturn, 1) := by decide +kernel
theorem dX2_joined_0 : decode cX2_joined 0 = .ok (.iload_n 0, 1) := by decide +kernel
theorem dX2_joined_1 : decode cX2_joined 1 = .ok (.lookupswitch 105 #[(42, 67), (43, 59), (45, 63), (47, 71), (60, 83), (62, 94)], 59) := by decide +kernel
theorem dX2_joined_60 : decode cX2_joined 60 = .ok (.iload_n 1, 1) := by decide +kernel
theorem dX2_joined_61 : decode cX2_joined 61 = .ok (.iload_n 2, 1) := by decide +kernel
theorem dX2_joined_62 : decode cX2_joined 62 = .ok (.iadd, 1) := by decide +kernel
theorem dX2_joined_63 : decode cX2_joined 63 = .ok (.ireturn, 1) := by decide +kernel
theorem dX2_joined_64 : decode cX2_joined 64 = .ok (.iload_n 1, 1) := by decide +kernel
theorem dX2_joined_65 : decode cX2_joined 65 = .ok (.iload_n 2, 1) := by decide +kernel
theorem dX2_joined_66 : decode cX2_joined 66 = .ok (.isub, 1) := by decide +kernel
theorem dX2_joined_67 : decode cX2_joined 67 = .ok (.ireturn, 1) := by decide +kernel
theorem dX2_joined_68 : decode cX2_joined 68 = .ok (.iload_n 1, 1) := by decide +kernel
theorem dX2_joined_69 : decode cX2_joined 69 = .ok (.iload_n 2, 1) := by decide +kernel
theorem dX2_joined_70 : decode cX2_joined 70 = .ok (.imul, 1) := by decide +kernel
theorem dX2_joined_71 : decode cX2_joined 71 = .ok (.ireturn, 1) := by decide +kernel
theorem dX2_joined_72 : decode cX2_joined 72 = .ok (.iload_n 2, 1) := by decide +kernel
theorem dX2_joined_73 : decode cX2_joined 73 = .ok (.ifCond .ne 7, 3) := by decide +kernel
theorem dX2_joined_76 : decode cX2_joined 76 = .ok (.iconst 0, 1) := by decide +kernel
theorem dX2_joined_77 : decode cX2_joined 77 = .ok (.goto 6, 3) := by decide +kernel
theorem dX2_joined_80 : decode cX2_joined 80 = .ok (.iload_n 1, 1) := by decide +kernel
theorem dX2_joined_81 : decode cX2_joined 81 = .ok (.iload_n 2, 1) := by decide +kernel
theorem dX2_joined_82 : decode cX2_joined 82 = .ok (.idiv, 1) := by decide +kernel
theorem dX2_joined_83 : decode cX2_joined 83 = .ok (.ireturn, 1) := by decide +kernel
theorem dX2_joined_84 : decode cX2_joined 84 = .ok (.iload_n 1, 1) := by decide +kernel
theorem dX2_joined_85 : decode cX2_joined 85 = .ok (.iload_n 2, 1) := by decide +kernel
theorem dX2_joined_86 : decode cX2_joined 86 = .ok (.if_icmp .ge 7, 3) := by decide +kernel
theorem dX2_joined_89 : decode cX2_joined 89 = .ok (.iconst 1, 1) := by decide +kernel
theorem dX2_joined_90 : decode cX2_joined 90 = .ok (.goto 4, 3) := by decide +kernel
theorem dX2_joined_93 : decode cX2_joined 93 = .ok (.iconst 0, 1) := by decide +kernel
theorem dX2_joined_94 : decode cX2_joined 94 = .ok (.ireturn, 1) := by decide +kernel
theorem dX2_joined_95 : decode cX2_joined 95 = .ok (.iload_n 1, 1) := by decide +kernel
theorem dX2_joined_96 : decode cX2_joined 96 = .ok (.iload_n 2, 1) := by decide +kernel
theorem dX2_joined_97 : decode cX2_joined 97 = .ok (.if_icmp .le 7, 3) := by decide +kernel
theorem dX2_joined_100 : decode cX2_joined 100 = .ok (.iconst 1, 1) := by decide +kernel
theorem dX2_joined_101 : decode cX2_joined 101 = .ok (.goto 4, 3) := by decide +kernel
theorem dX2_joined_104 : decode cX2_joined 104 = .ok (.iconst 0, 1) := by decide +kernel
theorem dX2_joined_105 : decode cX2_joined 105 = .ok (.ireturn, 1) := by decide +kernel
theorem dX2_joined_106 : decode cX2_joined 106 = .ok (.iload_n 1, 1) := by decide +kernel
theorem dX2_joined_107 : decode cX2_joined 107 = .ok (.iload_n 2, 1) := by decide +kernel
theorem dX2_joined_108 : decode cX2_joined 108 = .ok (.if_icmp .ne 7, 3) := by decide +kernel
theorem dX2_joined_111 : decode cX2_joined 111 = .ok (.iconst 1, 1) := by decide +kernel
theorem dX2_joined_112 : decode cX2_joined 112 = .ok (.goto 4, 3) := by decide +kernel
theorem dX2_joined_115 : decode cX2_joined 115 = .ok (.iconst 0, 1) := by decide +kernel
theorem dX2_joined_116 : decode cX2_joined 116 = .ok (.ireturn, 1) := by decide +kernel
