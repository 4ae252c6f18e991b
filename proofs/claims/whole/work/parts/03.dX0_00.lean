theorem dX0_init_0 : decode cX0_init 0 = .ok (.aload_n 0, 1) := by decide +kernel
theorem dX0_init_1 : decode cX0_init 1 = .ok (.invokespecial 3, 3) := by decide +kernel
theorem dX0_init_4 : decode cX0_init 4 = .ok (.aload_n 0, 1) := by decide +kernel
theorem dX0_init_5 : decode cX0_init 5 = .ok (.iconst 0, 1) := by decide +kernel
theorem dX0_init_6 : decode cX0_init 6 = .ok (.putfield 9, 3) := by decide +kernel
theorem dX0_init_9 : decode cX0_init 9 = .ok (.aload_n 0, 1) := by decide +kernel
theorem dX0_init_10 : decode cX0_init 10 = .ok (.iconst 0, 1) := by decide +kernel
theorem dX0_init_11 : decode cX0_init 11 = .ok (.putfield 15, 3) := by decide +kernel
theorem dX0_init_14 : decode cX0_init 14 = .ok (.aload_n 0, 1) := by decide +kernel
theorem dX0_init_15 : decode cX0_init 15 = .ok (.iconst 0, 1) := by decide +kernel
theorem dX0_init_16 : decode cX0_init 16 = .ok (.putfield 18, 3) := by decide +kernel
theorem dX0_init_19 : decode cX0_init 19 = .ok (.return_, 1) := by decide +kernel
theorem dX0_flawOf_0 : decode cX0_flawOf 0 = .ok (.aload_n 0, 1) := by decide +kernel
theorem dX0_flawOf_1 : decode cX0_flawOf 1 = .ok (.getfield 21, 3) := by decide +kernel
theorem dX0_flawOf_4 : decode cX0_flawOf 4 = .ok (.ifCond .ne 5, 3) := by decide +kernel
theorem dX0_flawOf_7 : decode cX0_flawOf 7 = .ok (.iconst (-1), 1) := by decide +kernel
theorem dX0_flawOf_8 : decode cX0_flawOf 8 = .ok (.ireturn, 1) := by decide +kernel
theorem dX0_flawOf_9 : decode cX0_flawOf 9 = .ok (.aload_n 0, 1) := by decide +kernel
theorem dX0_flawOf_10 : decode cX0_flawOf 10 = .ok (.getfield 21, 3) := by decide +kernel
theorem dX0_flawOf_13 : decode cX0_flawOf 13 = .ok (.bipush 60, 2) := by decide +kernel
theorem dX0_flawOf_15 : decode cX0_flawOf 15 = .ok (.invokestatic 26, 3) := by decide +kernel
theorem dX0_flawOf_18 : decode cX0_flawOf 18 = .ok (.istore_n 1, 1) := by decide +kernel
theorem dX0_flawOf_19 : decode cX0_flawOf 19 = .ok (.iconst 0, 1) := by decide +kernel
theorem dX0_flawOf_20 : decode cX0_flawOf 20 = .ok (.istore_n 2, 1) := by decide +kernel
theorem dX0_flawOf_21 : decode cX0_flawOf 21 = .ok (.iconst 0, 1) := by decide +kernel
theorem dX0_flawOf_22 : decode cX0_flawOf 22 = .ok (.istore_n 3, 1) := by decide +kernel
theorem dX0_flawOf_23 : decode cX0_flawOf 23 = .ok (.iload_n 3, 1) := by decide +kernel
theorem dX0_flawOf_24 : decode cX0_flawOf 24 = .ok (.iload_n 1, 1) := by decide +kernel
theorem dX0_flawOf_25 : decode cX0_flawOf 25 = .ok (.if_icmp .ge 32, 3) := by decide +kernel
theorem dX0_flawOf_28 : decode cX0_flawOf 28 = .ok (.iload_n 2, 1) := by decide +kernel
theorem dX0_flawOf_29 : decode cX0_flawOf 29 = .ok (.aload_n 0, 1) := by decide +kernel
theorem dX0_flawOf_30 : decode cX0_flawOf 30 = .ok (.iload_n 3, 1) := by decide +kernel
theorem dX0_flawOf_31 : decode cX0_flawOf 31 = .ok (.invokevirtual 32, 3) := by decide +kernel
theorem dX0_flawOf_34 : decode cX0_flawOf 34 = .ok (.aload_n 0, 1) := by decide +kernel
theorem dX0_flawOf_35 : decode cX0_flawOf 35 = .ok (.iload_n 3, 1) := by decide +kernel
theorem dX0_flawOf_36 : decode cX0_flawOf 36 = .ok (.iconst 1, 1) := by decide +kernel
theorem dX0_flawOf_37 : decode cX0_flawOf 37 = .ok (.isub, 1) := by decide +kernel
theorem dX0_flawOf_38 : decode cX0_flawOf 38 = .ok (.invokevirtual 32, 3) := by decide +kernel
theorem dX0_flawOf_41 : decode cX0_flawOf 41 = .ok (.invokestatic 36, 3) := by decide +kernel
theorem dX0_flawOf_44 : decode cX0_flawOf 44 = .ok (.istore_n 2, 1) := by decide +kernel
theorem dX0_flawOf_45 : decode cX0_flawOf 45 = .ok (.iload_n 2, 1) := by decide +kernel
theorem dX0_flawOf_46 : decode cX0_flawOf 46 = .ok (.ifCond .ge 5, 3) := by decide +kernel
theorem dX0_flawOf_49 : decode cX0_flawOf 49 = .ok (.iload_n 3, 1) := by decide +kernel
theorem dX0_flawOf_50 : decode cX0_flawOf 50 = .ok (.ireturn, 1) := by decide +kernel
theorem dX0_flawOf_51 : decode cX0_flawOf 51 = .ok (.iinc 3 1, 3) := by decide +kernel
theorem dX0_flawOf_54 : decode cX0_flawOf 54 = .ok (.goto (-31), 3) := by decide +kernel
theorem dX0_flawOf_57 : decode cX0_flawOf 57 = .ok (.aload_n 0, 1) := by decide +kernel
theorem dX0_flawOf_58 : decode cX0_flawOf 58 = .ok (.bipush 60, 2) := by decide +kernel
theorem dX0_flawOf_60 : decode cX0_flawOf 60 = .ok (.iload_n 2, 1) := by decide +kernel
theorem dX0_flawOf_61 : decode cX0_flawOf 61 = .ok (.iconst 2, 1) := by decide +kernel
theorem dX0_flawOf_62 : decode cX0_flawOf 62 = .ok (.if_icmp .eq 8, 3) := by decide +kernel
theorem dX0_flawOf_65 : decode cX0_flawOf 65 = .ok (.iload_n 2, 1) := by decide +kernel
theorem dX0_flawOf_66 : decode cX0_flawOf 66 = .ok (.iconst 5, 1) := by decide +kernel
theorem dX0_flawOf_67 : decode cX0_flawOf 67 = .ok (.if_icmp .lt 7, 3) := by decide +kernel
theorem dX0_flawOf_70 : decode cX0_flawOf 70 = .ok (.iconst 1, 1) := by decide +kernel
theorem dX0_flawOf_71 : decode cX0_flawOf 71 = .ok (.goto 4, 3) := by decide +kernel
theorem dX0_flawOf_74 : decode cX0_flawOf 74 = .ok (.iconst 0, 1) := by decide +kernel
theorem dX0_flawOf_75 : decode cX0_flawOf 75 = .ok (.invokevirtual 40, 3) := by decide +kernel
theorem dX0_flawOf_78 : decode cX0_flawOf 78 = .ok (.ireturn, 1) := by decide +kernel
theorem dX0_nextPlace_0 : decode cX0_nextPlace 0 = .ok (.iload_n 0, 1) := by decide +kernel
theorem dX0_nextPlace_1 : decode cX0_nextPlace 1 = .ok (.tableswitch 148 0 5 #[39, 44, 57, 83, 96, 121], 39) := by decide +kernel
theorem dX0_nextPlace_40 : decode cX0_nextPlace 40 = .ok (.iload_n 1, 1) := by decide +kernel
theorem dX0_nextPlace_41 : decode cX0_nextPlace 41 = .ok (.invokestatic 44, 3) := by decide +kernel
theorem dX0_nextPlace_44 : decode cX0_nextPlace 44 = .ok (.ireturn, 1) := by decide +kernel
theorem dX0_nextPlace_45 : decode cX0_nextPlace 45 = .ok (.iload_n 1, 1) := by decide +kernel
theorem dX0_nextPlace_46 : decode cX0_nextPlace 46 = .ok (.invokestatic 47, 3) := by decide +kernel
theorem dX0_nextPlace_49 : decode cX0_nextPlace 49 = .ok (.ifCond .eq 7, 3) := by decide +kernel
theorem dX0_nextPlace_52 : decode cX0_nextPlace 52 = .ok (.iconst 2, 1) := by decide +kernel
theorem dX0_nextPlace_53 : decode cX0_nextPlace 53 = .ok (.goto 4, 3) := by decide +kernel
theorem dX0_nextPlace_56 : decode cX0_nextPlace 56 = .ok (.iconst (-1), 1) := by decide +kernel
theorem dX0_nextPlace_57 : decode cX0_nextPlace 57 = .ok (.ireturn, 1) := by decide +kernel
theorem dX0_nextPlace_58 : decode cX0_nextPlace 58 = .ok (.iload_n 1, 1) := by decide +kernel
theorem dX0_nextPlace_59 : decode cX0_nextPlace 59 = .ok (.invokestatic 47, 3) := by decide +kernel
theorem dX0_nextPlace_62 : decode cX0_nextPlace 62 = .ok (.ifCond .eq 10, 3) := by decide +kernel
theorem dX0_nextPlace_65 : decode cX0_nextPlace 65 = .ok (.iload_n 1, 1) := by decide +kernel
theorem dX0_nextPlace_66 : decode cX0_nextPlace 66 = .ok (.iload_n 2, 1) := by decide +kernel
theorem dX0_nextPlace_67 : decode cX0_nextPlace 67 = .ok (.if_icmp .le 5, 3) := by decide +kernel
theorem dX0_nextPlace_70 : decode cX0_nextPlace 70 = .ok (.iconst 2, 1) := by decide +kernel
theorem dX0_nextPlace_71 : decode cX0_nextPlace 71 = .ok (.ireturn, 1) := by decide +kernel
theorem dX0_nextPlace_72 : decode cX0_nextPlace 72 = .ok (.iload_n 1, 1) := by decide +kernel
theorem dX0_nextPlace_73 : decode cX0_nextPlace 73 = .ok (.bipush 59, 2) := by decide +kernel
theorem dX0_nextPlace_75 : decode cX0_nextPlace 75 = .ok (.if_icmp .ne 7, 3) := by decide +kernel
theorem dX0_nextPlace_78 : decode cX0_nextPlace 78 = .ok (.iconst 0, 1) := by decide +kernel
theorem dX0_nextPlace_79 : decode cX0_nextPlace 79 = .ok (.goto 4, 3) := by decide +kernel
theorem dX0_nextPlace_82 : decode cX0_nextPlace 82 = .ok (.iconst (-1), 1) := by decide +kernel
theorem dX0_nextPlace_83 : decode cX0_nextPlace 83 = .ok (.ireturn, 1) := by decide +kernel
theorem dX0_nextPlace_84 : decode cX0_nextPlace 84 = .ok (.iload_n 1, 1) := by decide +kernel
theorem dX0_nextPlace_85 : decode cX0_nextPlace 85 = .ok (.invokestatic 47, 3) := by decide +kernel
theorem dX0_nextPlace_88 : decode cX0_nextPlace 88 = .ok (.ifCond .eq 7, 3) := by decide +kernel
theorem dX0_nextPlace_91 : decode cX0_nextPlace 91 = .ok (.iconst 4, 1) := by decide +kernel
theorem dX0_nextPlace_92 : decode cX0_nextPlace 92 = .ok (.goto 4, 3) := by decide +kernel
theorem dX0_nextPlace_95 : decode cX0_nextPlace 95 = .ok (.iconst (-1), 1) := by decide +kernel
theorem dX0_nextPlace_96 : decode cX0_nextPlace 96 = .ok (.ireturn, 1) := by decide +kernel
theorem dX0_nextPlace_97 : decode cX0_nextPlace 97 = .ok (.iload_n 1, 1) := by decide +kernel
theorem dX0_nextPlace_98 : decode cX0_nextPlace 98 = .ok (.bipush 45, 2) := by decide +kernel
theorem dX0_nextPlace_100 : decode cX0_nextPlace 100 = .ok (.if_icmp .eq 15, 3) := by decide +kernel
theorem dX0_nextPlace_103 : decode cX0_nextPlace 103 = .ok (.iload_n 1, 1) := by decide +kernel
theorem dX0_nextPlace_104 : decode cX0_nextPlace 104 = .ok (.bipush 48, 2) := by decide +kernel
theorem dX0_nextPlace_106 : decode cX0_nextPlace 106 = .ok (.if_icmp .lt 14, 3) := by decide +kernel
theorem dX0_nextPlace_109 : decode cX0_nextPlace 109 = .ok (.iload_n 1, 1) := by decide +kernel
theorem dX0_nextPlace_110 : decode cX0_nextPlace 110 = .ok (.bipush 57, 2) := by decide +kernel
theorem dX0_nextPlace_112 : decode cX0_nextPlace 112 = .ok (.if_icmp .gt 8, 3) := by decide +kernel
theorem dX0_nextPlace_115 : decode cX0_nextPlace 115 = .ok (.bipush 6, 2) := by decide +kernel
theorem dX0_nextPlace_117 : decode cX0_nextPlace 117 = .ok (.goto 4, 3) := by decide +kernel
theorem dX0_nextPlace_120 : decode cX0_nextPlace 120 = .ok (.iconst (-1), 1) := by decide +kernel
theorem dX0_nextPlace_121 : decode cX0_nextPlace 121 = .ok (.ireturn, 1) := by decide +kernel
theorem dX0_nextPlace_122 : decode cX0_nextPlace 122 = .ok (.iload_n 1, 1) := by decide +kernel
theorem dX0_nextPlace_123 : decode cX0_nextPlace 123 = .ok (.bipush 49, 2) := by decide +kernel
theorem dX0_nextPlace_125 : decode cX0_nextPlace 125 = .ok (.if_icmp .lt 12, 3) := by decide +kernel
theorem dX0_nextPlace_128 : decode cX0_nextPlace 128 = .ok (.iload_n 1, 1) := by decide +kernel
theorem dX0_nextPlace_129 : decode cX0_nextPlace 129 = .ok (.bipush 57, 2) := by decide +kernel
theorem dX0_nextPlace_131 : decode cX0_nextPlace 131 = .ok (.if_icmp .gt 6, 3) := by decide +kernel
theorem dX0_nextPlace_134 : decode cX0_nextPlace 134 = .ok (.bipush 6, 2) := by decide +kernel
theorem dX0_nextPlace_136 : decode cX0_nextPlace 136 = .ok (.ireturn, 1) := by decide +kernel
theorem dX0_nextPlace_137 : decode cX0_nextPlace 137 = .ok (.iload_n 1, 1) := by decide +kernel
theorem dX0_nextPlace_138 : decode cX0_nextPlace 138 = .ok (.bipush 59, 2) := by decide +kernel
theorem dX0_nextPlace_140 : decode cX0_nextPlace 140 = .ok (.if_icmp .ne 7, 3) := by decide +kernel
theorem dX0_nextPlace_143 : decode cX0_nextPlace 143 = .ok (.iconst 0, 1) := by decide +kernel
theorem dX0_nextPlace_144 : decode cX0_nextPlace 144 = .ok (.goto 4, 3) := by decide +kernel
theorem dX0_nextPlace_147 : decode cX0_nextPlace 147 = .ok (.iconst (-1), 1) := by decide +kernel
theorem dX0_nextPlace_148 : decode cX0_nextPlace 148 = .ok (.ireturn, 1) := by decide +kernel
theorem dX0_nextPlace_149 : decode cX0_nextPlace 149 = .ok (.iload_n 1, 1) := by decide +kernel
theorem dX0_nextPlace_150 : decode cX0_nextPlace 150 = .ok (.bipush 59, 2) := by decide +kernel
theorem dX0_nextPlace_152 : decode cX0_nextPlace 152 = .ok (.if_icmp .ne 7, 3) := by decide +kernel
theorem dX0_nextPlace_155 : decode cX0_nextPlace 155 = .ok (.iconst 0, 1) := by decide +kernel
theorem dX0_nextPlace_156 : decode cX0_nextPlace 156 = .ok (.goto 4, 3) := by decide +kernel
theorem dX0_nextPlace_159 : decode cX0_nextPlace 159 = .ok (.iconst (-1), 1) := by decide +kernel
theorem dX0_nextPlace_160 : decode cX0_nextPlace 160 = .ok (.ireturn, 1) := by decide +kernel
theorem dX0_placeBehind_0 : decode cX0_placeBehind 0 = .ok (.iload_n 0, 1) := by decide +kernel
theorem dX0_placeBehind_1 : decode cX0_placeBehind 1 = .ok (.bipush 105, 2) := by decide +kernel
theorem dX0_placeBehind_3 : decode cX0_placeBehind 3 = .ok (.if_icmp .eq 9, 3) := by decide +kernel
theorem dX0_placeBehind_6 : decode cX0_placeBehind 6 = .ok (.iload_n 0, 1) := by decide +kernel
theorem dX0_placeBehind_7 : decode cX0_placeBehind 7 = .ok (.bipush 111, 2) := by decide +kernel
theorem dX0_placeBehind_9 : decode cX0_placeBehind 9 = .ok (.if_icmp .ne 5, 3) := by decide +kernel
theorem dX0_placeBehind_12 : decode cX0_placeBehind 12 = .ok (.iconst 1, 1) := by decide +kernel
theorem dX0_placeBehind_13 : decode cX0_placeBehind 13 = .ok (.ireturn, 1) := by decide +kernel
theorem dX0_placeBehind_14 : decode cX0_placeBehind 14 = .ok (.iload_n 0, 1) := by decide +kernel
theorem dX0_placeBehind_15 : decode cX0_placeBehind 15 = .ok (.bipush 119, 2) := by decide +kernel
theorem dX0_placeBehind_17 : decode cX0_placeBehind 17 = .ok (.if_icmp .ne 5, 3) := by decide +kernel
theorem dX0_placeBehind_20 : decode cX0_placeBehind 20 = .ok (.iconst 3, 1) := by decide +kernel
theorem dX0_placeBehind_21 : decode cX0_placeBehind 21 = .ok (.ireturn, 1) := by decide +kernel
theorem dX0_placeBehind_22 : decode cX0_placeBehind 22 = .ok (.iload_n 0, 1) := by decide +kernel
theorem dX0_placeBehind_23 : decode cX0_placeBehind 23 = .ok (.bipush 114, 2) := by decide +kernel
theorem dX0_placeBehind_25 : decode cX0_placeBehind 25 = .ok (.if_icmp .ne 7, 3) := by decide +kernel
theorem dX0_placeBehind_28 : decode cX0_placeBehind 28 = .ok (.iconst 5, 1) := by decide +kernel
theorem dX0_placeBehind_29 : decode cX0_placeBehind 29 = .ok (.goto 4, 3) := by decide +kernel
theorem dX0_placeBehind_32 : decode cX0_placeBehind 32 = .ok (.iconst (-1), 1) := by decide +kernel
theorem dX0_placeBehind_33 : decode cX0_placeBehind 33 = .ok (.ireturn, 1) := by decide +kernel
theorem dX0_isLetter_0 : decode cX0_isLetter 0 = .ok (.iload_n 0, 1) := by decide +kernel
theorem dX0_isLetter_1 : decode cX0_isLetter 1 = .ok (.bipush 97, 2) := by decide +kernel
theorem dX0_isLetter_3 : decode cX0_isLetter 3 = .ok (.if_icmp .lt 13, 3) := by decide +kernel
theorem dX0_isLetter_6 : decode cX0_isLetter 6 = .ok (.iload_n 0, 1) := by decide +kernel
theorem dX0_isLetter_7 : decode cX0_isLetter 7 = .ok (.bipush 106, 2) := by decide +kernel
theorem dX0_isLetter_9 : decode cX0_isLetter 9 = .ok (.if_icmp .gt 7, 3) := by decide +kernel
theorem dX0_isLetter_12 : decode cX0_isLetter 12 = .ok (.iconst 1, 1) := by decide +kernel
theorem dX0_isLetter_13 : decode cX0_isLetter 13 = .ok (.goto 4, 3) := by decide +kernel
theorem dX0_isLetter_16 : decode cX0_isLetter 16 = .ok (.iconst 0, 1) := by decide +kernel
theorem dX0_isLetter_17 : decode cX0_isLetter 17 = .ok (.ireturn, 1) := by decide +kernel
theorem dX0_live_0 : decode cX0_live 0 = .ok (.aload_n 0, 1) := by decide +kernel
theorem dX0_live_1 : decode cX0_live 1 = .ok (.iconst 0, 1) := by decide +kernel
theorem dX0_live_2 : decode cX0_live 2 = .ok (.putfield 9, 3) := by decide +kernel
theorem dX0_live_5 : decode cX0_live 5 = .ok (.aload_n 0, 1) := by decide +kernel
theorem dX0_live_6 : decode cX0_live 6 = .ok (.iconst 0, 1) := by decide +kernel
theorem dX0_live_7 : decode cX0_live 7 = .ok (.putfield 15, 3) := by decide +kernel
theorem dX0_live_10 : decode cX0_live 10 = .ok (.aload_n 0, 1) := by decide +kernel
theorem dX0_live_11 : decode cX0_live 11 = .ok (.iconst 0, 1) := by decide +kernel
theorem dX0_live_12 : decode cX0_live 12 = .ok (.putfield 18, 3) := by decide +kernel
theorem dX0_live_15 : decode cX0_live 15 = .ok (.iconst 0, 1) := by decide +kernel
theorem dX0_live_16 : decode cX0_live 16 = .ok (.istore 4, 2) := by decide +kernel
theorem dX0_live_18 : decode cX0_live 18 = .ok (.iconst 0, 1) := by decide +kernel
theorem dX0_live_19 : decode cX0_live 19 = .ok (.istore 5, 2) := by decide +kernel
theorem dX0_live_21 : decode cX0_live 21 = .ok (.iload 5, 2) := by decide +kernel
theorem dX0_live_23 : decode cX0_live 23 = .ok (.aload_n 3, 1) := by decide +kernel
theorem dX0_live_24 : decode cX0_live 24 = .ok (.getfield 21, 3) := by decide +kernel
theorem dX0_live_27 : decode cX0_live 27 = .ok (.if_icmp .gt 68, 3) := by decide +kernel
theorem dX0_live_30 : decode cX0_live 30 = .ok (.aload_n 3, 1) := by decide +kernel
theorem dX0_live_31 : decode cX0_live 31 = .ok (.getfield 21, 3) := by decide +kernel
theorem dX0_live_34 : decode cX0_live 34 = .ok (.ifCond .le 61, 3) := by decide +kernel
theorem dX0_live_37 : decode cX0_live 37 = .ok (.iload 5, 2) := by decide +kernel
theorem dX0_live_39 : decode cX0_live 39 = .ok (.aload_n 3, 1) := by decide +kernel
theorem dX0_live_40 : decode cX0_live 40 = .ok (.getfield 21, 3) := by decide +kernel
theorem dX0_live_43 : decode cX0_live 43 = .ok (.if_icmp .eq 14, 3) := by decide +kernel
theorem dX0_live_46 : decode cX0_live 46 = .ok (.aload_n 3, 1) := by decide +kernel
theorem dX0_live_47 : decode cX0_live 47 = .ok (.iload 5, 2) := by decide +kernel
theorem dX0_live_49 : decode cX0_live 49 = .ok (.invokevirtual 32, 3) := by decide +kernel
theorem dX0_live_52 : decode cX0_live 52 = .ok (.bipush 59, 2) := by decide +kernel
theorem dX0_live_54 : decode cX0_live 54 = .ok (.if_icmp .ne 35, 3) := by decide +kernel
theorem dX0_live_57 : decode cX0_live 57 = .ok (.aload_n 0, 1) := by decide +kernel
theorem dX0_live_58 : decode cX0_live 58 = .ok (.aload_n 1, 1) := by decide +kernel
theorem dX0_live_59 : decode cX0_live 59 = .ok (.aload_n 2, 1) := by decide +kernel
theorem dX0_live_60 : decode cX0_live 60 = .ok (.aload_n 3, 1) := by decide +kernel
theorem dX0_live_61 : decode cX0_live 61 = .ok (.iload 4, 2) := by decide +kernel
theorem dX0_live_63 : decode cX0_live 63 = .ok (.iload 5, 2) := by decide +kernel
theorem dX0_live_65 : decode cX0_live 65 = .ok (.invokevirtual 51, 3) := by decide +kernel
theorem dX0_live_68 : decode cX0_live 68 = .ok (.ifCond .ne 5, 3) := by decide +kernel
theorem dX0_live_71 : decode cX0_live 71 = .ok (.iconst 0, 1) := by decide +kernel
theorem dX0_live_72 : decode cX0_live 72 = .ok (.ireturn, 1) := by decide +kernel
theorem dX0_live_73 : decode cX0_live 73 = .ok (.aload_n 0, 1) := by decide +kernel
theorem dX0_live_74 : decode cX0_live 74 = .ok (.dup, 1) := by decide +kernel
theorem dX0_live_75 : decode cX0_live 75 = .ok (.getfield 9, 3) := by decide +kernel
theorem dX0_live_78 : decode cX0_live 78 = .ok (.iconst 1, 1) := by decide +kernel
theorem dX0_live_79 : decode cX0_live 79 = .ok (.iadd, 1) := by decide +kernel
theorem dX0_live_80 : decode cX0_live 80 = .ok (.putfield 9, 3) := by decide +kernel
theorem dX0_live_83 : decode cX0_live 83 = .ok (.iload 5, 2) := by decide +kernel
theorem dX0_live_85 : decode cX0_live 85 = .ok (.iconst 1, 1) := by decide +kernel
theorem dX0_live_86 : decode cX0_live 86 = .ok (.iadd, 1) := by decide +kernel
theorem dX0_live_87 : decode cX0_live 87 = .ok (.istore 4, 2) := by decide +kernel
theorem dX0_live_89 : decode cX0_live 89 = .ok (.iinc 5 1, 3) := by decide +kernel
theorem dX0_live_92 : decode cX0_live 92 = .ok (.goto (-71), 3) := by decide +kernel
theorem dX0_live_95 : decode cX0_live 95 = .ok (.iconst 1, 1) := by decide +kernel
theorem dX0_live_96 : decode cX0_live 96 = .ok (.ireturn, 1) := by decide +kernel
theorem dX0_act_0 : decode cX0_act 0 = .ok (.aload_n 3, 1) := by decide +kernel
theorem dX0_act_1 : decode cX0_act 1 = .ok (.iload 4, 2) := by decide +kernel
theorem dX0_act_3 : decode cX0_act 3 = .ok (.invokevirtual 32, 3) := by decide +kernel
theorem dX0_act_6 : decode cX0_act 6 = .ok (.lookupswitch 71 #[(105, 34), (111, 34), (119, 45)], 34) := by decide +kernel
theorem dX0_act_40 : decode cX0_act 40 = .ok (.aload_n 0, 1) := by decide +kernel
theorem dX0_act_41 : decode cX0_act 41 = .ok (.aload_n 2, 1) := by decide +kernel
theorem dX0_act_42 : decode cX0_act 42 = .ok (.aload_n 3, 1) := by decide +kernel
theorem dX0_act_43 : decode cX0_act 43 = .ok (.iload 4, 2) := by decide +kernel
theorem dX0_act_45 : decode cX0_act 45 = .ok (.iload 5, 2) := by decide +kernel
theorem dX0_act_47 : decode cX0_act 47 = .ok (.invokevirtual 55, 3) := by decide +kernel
theorem dX0_act_50 : decode cX0_act 50 = .ok (.ireturn, 1) := by decide +kernel
theorem dX0_act_51 : decode cX0_act 51 = .ok (.aload_n 0, 1) := by decide +kernel
theorem dX0_act_52 : decode cX0_act 52 = .ok (.aload_n 1, 1) := by decide +kernel
theorem dX0_act_53 : decode cX0_act 53 = .ok (.aload_n 2, 1) := by decide +kernel
theorem dX0_act_54 : decode cX0_act 54 = .ok (.aload_n 3, 1) := by decide +kernel
theorem dX0_act_55 : decode cX0_act 55 = .ok (.iload 4, 2) := by decide +kernel
theorem dX0_act_57 : decode cX0_act 57 = .ok (.iconst 1, 1) := by decide +kernel
theorem dX0_act_58 : decode cX0_act 58 = .ok (.iadd, 1) := by decide +kernel
theorem dX0_act_59 : decode cX0_act 59 = .ok (.invokevirtual 32, 3) := by decide +kernel
theorem dX0_act_62 : decode cX0_act 62 = .ok (.bipush 97, 2) := by decide +kernel
theorem dX0_act_64 : decode cX0_act 64 = .ok (.isub, 1) := by decide +kernel
theorem dX0_act_65 : decode cX0_act 65 = .ok (.aload_n 3, 1) := by decide +kernel
theorem dX0_act_66 : decode cX0_act 66 = .ok (.iload 4, 2) := by decide +kernel
theorem dX0_act_68 : decode cX0_act 68 = .ok (.iconst 2, 1) := by decide +kernel
theorem dX0_act_69 : decode cX0_act 69 = .ok (.iadd, 1) := by decide +kernel
theorem dX0_act_70 : decode cX0_act 70 = .ok (.invokevirtual 32, 3) := by decide +kernel
theorem dX0_act_73 : decode cX0_act 73 = .ok (.invokevirtual 59, 3) := by decide +kernel
theorem dX0_act_76 : decode cX0_act 76 = .ok (.ireturn, 1) := by decide +kernel
theorem dX0_act_77 : decode cX0_act 77 = .ok (.iload 4, 2) := by decide +kernel
theorem dX0_act_79 : decode cX0_act 79 = .ok (.iconst 1, 1) := by decide +kernel
theorem dX0_act_80 : decode cX0_act 80 = .ok (.iadd, 1) := by decide +kernel
theorem dX0_act_81 : decode cX0_act 81 = .ok (.iload 5, 2) := by decide +kernel
theorem dX0_act_83 : decode cX0_act 83 = .ok (.if_icmp .ge 17, 3) := by decide +kernel
theorem dX0_act_86 : decode cX0_act 86 = .ok (.aload_n 3, 1) := by decide +kernel
theorem dX0_act_87 : decode cX0_act 87 = .ok (.iload 4, 2) := by decide +kernel
theorem dX0_act_89 : decode cX0_act 89 = .ok (.iconst 1, 1) := by decide +kernel
theorem dX0_act_90 : decode cX0_act 90 = .ok (.iadd, 1) := by decide +kernel
theorem dX0_act_91 : decode cX0_act 91 = .ok (.invokevirtual 32, 3) := by decide +kernel
theorem dX0_act_94 : decode cX0_act 94 = .ok (.bipush 48, 2) := by decide +kernel
theorem dX0_act_96 : decode cX0_act 96 = .ok (.isub, 1) := by decide +kernel
theorem dX0_act_97 : decode cX0_act 97 = .ok (.goto 4, 3) := by decide +kernel
theorem dX0_act_100 : decode cX0_act 100 = .ok (.iconst 1, 1) := by decide +kernel
theorem dX0_act_101 : decode cX0_act 101 = .ok (.istore 6, 2) := by decide +kernel
theorem dX0_act_103 : decode cX0_act 103 = .ok (.iconst 0, 1) := by decide +kernel
theorem dX0_act_104 : decode cX0_act 104 = .ok (.istore 7, 2) := by decide +kernel
theorem dX0_act_106 : decode cX0_act 106 = .ok (.iload 7, 2) := by decide +kernel
theorem dX0_act_108 : decode cX0_act 108 = .ok (.iload 6, 2) := by decide +kernel
theorem dX0_act_110 : decode cX0_act 110 = .ok (.if_icmp .ge 35, 3) := by decide +kernel
theorem dX0_act_113 : decode cX0_act 113 = .ok (.aload_n 1, 1) := by decide +kernel
theorem dX0_act_114 : decode cX0_act 114 = .ok (.aload_n 2, 1) := by decide +kernel
theorem dX0_act_115 : decode cX0_act 115 = .ok (.invokevirtual 63, 3) := by decide +kernel
theorem dX0_act_118 : decode cX0_act 118 = .ok (.pop, 1) := by decide +kernel
theorem dX0_act_119 : decode cX0_act 119 = .ok (.aload_n 0, 1) := by decide +kernel
theorem dX0_act_120 : decode cX0_act 120 = .ok (.dup, 1) := by decide +kernel
theorem dX0_act_121 : decode cX0_act 121 = .ok (.getfield 15, 3) := by decide +kernel
theorem dX0_act_124 : decode cX0_act 124 = .ok (.iconst 1, 1) := by decide +kernel
theorem dX0_act_125 : decode cX0_act 125 = .ok (.iadd, 1) := by decide +kernel
theorem dX0_act_126 : decode cX0_act 126 = .ok (.putfield 15, 3) := by decide +kernel
theorem dX0_act_129 : decode cX0_act 129 = .ok (.aload_n 0, 1) := by decide +kernel
theorem dX0_act_130 : decode cX0_act 130 = .ok (.dup, 1) := by decide +kernel
theorem dX0_act_131 : decode cX0_act 131 = .ok (.getfield 18, 3) := by decide +kernel
theorem dX0_act_134 : decode cX0_act 134 = .ok (.iconst 1, 1) := by decide +kernel
theorem dX0_act_135 : decode cX0_act 135 = .ok (.iadd, 1) := by decide +kernel
theorem dX0_act_136 : decode cX0_act 136 = .ok (.putfield 18, 3) := by decide +kernel
theorem dX0_act_139 : decode cX0_act 139 = .ok (.iinc 7 1, 3) := by decide +kernel
theorem dX0_act_142 : decode cX0_act 142 = .ok (.goto (-36), 3) := by decide +kernel
theorem dX0_act_145 : decode cX0_act 145 = .ok (.iconst 1, 1) := by decide +kernel
theorem dX0_act_146 : decode cX0_act 146 = .ok (.ireturn, 1) := by decide +kernel
theorem dX0_pass_0 : decode cX0_pass 0 = .ok (.aload_n 2, 1) := by decide +kernel
theorem dX0_pass_1 : decode cX0_pass 1 = .ok (.iload_n 3, 1) := by decide +kernel
theorem dX0_pass_2 : decode cX0_pass 2 = .ok (.invokevirtual 32, 3) := by decide +kernel
theorem dX0_pass_5 : decode cX0_pass 5 = .ok (.bipush 105, 2) := by decide +kernel
theorem dX0_pass_7 : decode cX0_pass 7 = .ok (.if_icmp .ne 7, 3) := by decide +kernel
theorem dX0_pass_10 : decode cX0_pass 10 = .ok (.iconst 1, 1) := by decide +kernel
theorem dX0_pass_11 : decode cX0_pass 11 = .ok (.goto 4, 3) := by decide +kernel
theorem dX0_pass_14 : decode cX0_pass 14 = .ok (.iconst 0, 1) := by decide +kernel
theorem dX0_pass_15 : decode cX0_pass 15 = .ok (.istore 5, 2) := by decide +kernel
theorem dX0_pass_17 : decode cX0_pass 17 = .ok (.iload_n 3, 1) := by decide +kernel
theorem dX0_pass_18 : decode cX0_pass 18 = .ok (.iconst 1, 1) := by decide +kernel
theorem dX0_pass_19 : decode cX0_pass 19 = .ok (.iadd, 1) := by decide +kernel
theorem dX0_pass_20 : decode cX0_pass 20 = .ok (.istore 6, 2) := by decide +kernel
theorem dX0_pass_22 : decode cX0_pass 22 = .ok (.iload 6, 2) := by decide +kernel
theorem dX0_pass_24 : decode cX0_pass 24 = .ok (.iload 4, 2) := by decide +kernel
theorem dX0_pass_26 : decode cX0_pass 26 = .ok (.if_icmp .ge 71, 3) := by decide +kernel
theorem dX0_pass_29 : decode cX0_pass 29 = .ok (.aload_n 2, 1) := by decide +kernel
theorem dX0_pass_30 : decode cX0_pass 30 = .ok (.iload 6, 2) := by decide +kernel
theorem dX0_pass_32 : decode cX0_pass 32 = .ok (.invokevirtual 32, 3) := by decide +kernel
theorem dX0_pass_35 : decode cX0_pass 35 = .ok (.bipush 97, 2) := by decide +kernel
theorem dX0_pass_37 : decode cX0_pass 37 = .ok (.isub, 1) := by decide +kernel
theorem dX0_pass_38 : decode cX0_pass 38 = .ok (.istore 7, 2) := by decide +kernel
theorem dX0_pass_40 : decode cX0_pass 40 = .ok (.iload 5, 2) := by decide +kernel
theorem dX0_pass_42 : decode cX0_pass 42 = .ok (.ifCond .eq 15, 3) := by decide +kernel
theorem dX0_pass_45 : decode cX0_pass 45 = .ok (.aload_n 1, 1) := by decide +kernel
theorem dX0_pass_46 : decode cX0_pass 46 = .ok (.iload 7, 2) := by decide +kernel
theorem dX0_pass_48 : decode cX0_pass 48 = .ok (.invokevirtual 69, 3) := by decide +kernel
theorem dX0_pass_51 : decode cX0_pass 51 = .ok (.ifCond .ne 17, 3) := by decide +kernel
theorem dX0_pass_54 : decode cX0_pass 54 = .ok (.goto 12, 3) := by decide +kernel
theorem dX0_pass_57 : decode cX0_pass 57 = .ok (.aload_n 1, 1) := by decide +kernel
theorem dX0_pass_58 : decode cX0_pass 58 = .ok (.iload 7, 2) := by decide +kernel
theorem dX0_pass_60 : decode cX0_pass 60 = .ok (.invokevirtual 74, 3) := by decide +kernel
theorem dX0_pass_63 : decode cX0_pass 63 = .ok (.ifCond .ne 5, 3) := by decide +kernel
theorem dX0_pass_66 : decode cX0_pass 66 = .ok (.iconst 0, 1) := by decide +kernel
theorem dX0_pass_67 : decode cX0_pass 67 = .ok (.ireturn, 1) := by decide +kernel
theorem dX0_pass_68 : decode cX0_pass 68 = .ok (.aload_n 1, 1) := by decide +kernel
theorem dX0_pass_69 : decode cX0_pass 69 = .ok (.dup, 1) := by decide +kernel
theorem dX0_pass_70 : decode cX0_pass 70 = .ok (.getfield 77, 3) := by decide +kernel
theorem dX0_pass_73 : decode cX0_pass 73 = .ok (.iconst 1, 1) := by decide +kernel
theorem dX0_pass_74 : decode cX0_pass 74 = .ok (.iload 7, 2) := by decide +kernel
theorem dX0_pass_76 : decode cX0_pass 76 = .ok (.ishl, 1) := by decide +kernel
theorem dX0_pass_77 : decode cX0_pass 77 = .ok (.ixor, 1) := by decide +kernel
theorem dX0_pass_78 : decode cX0_pass 78 = .ok (.putfield 77, 3) := by decide +kernel
theorem dX0_pass_81 : decode cX0_pass 81 = .ok (.aload_n 0, 1) := by decide +kernel
theorem dX0_pass_82 : decode cX0_pass 82 = .ok (.dup, 1) := by decide +kernel
theorem dX0_pass_83 : decode cX0_pass 83 = .ok (.getfield 18, 3) := by decide +kernel
theorem dX0_pass_86 : decode cX0_pass 86 = .ok (.iconst 1, 1) := by decide +kernel
theorem dX0_pass_87 : decode cX0_pass 87 = .ok (.iadd, 1) := by decide +kernel
theorem dX0_pass_88 : decode cX0_pass 88 = .ok (.putfield 18, 3) := by decide +kernel
theorem dX0_pass_91 : decode cX0_pass 91 = .ok (.iinc 6 1, 3) := by decide +kernel
theorem dX0_pass_94 : decode cX0_pass 94 = .ok (.goto (-72), 3) := by decide +kernel
theorem dX0_pass_97 : decode cX0_pass 97 = .ok (.iconst 1, 1) := by decide +kernel
theorem dX0_pass_98 : decode cX0_pass 98 = .ok (.ireturn, 1) := by decide +kernel
theorem dX0_wish_0 : decode cX0_wish 0 = .ok (.iload 4, 2) := by decide +kernel
theorem dX0_wish_2 : decode cX0_wish 2 = .ok (.bipush 45, 2) := by decide +kernel
theorem dX0_wish_4 : decode cX0_wish 4 = .ok (.if_icmp .ne 7, 3) := by decide +kernel
theorem dX0_wish_7 : decode cX0_wish 7 = .ok (.iconst (-1), 1) := by decide +kernel
theorem dX0_wish_8 : decode cX0_wish 8 = .ok (.goto 8, 3) := by decide +kernel
theorem dX0_wish_11 : decode cX0_wish 11 = .ok (.iload 4, 2) := by decide +kernel
theorem dX0_wish_13 : decode cX0_wish 13 = .ok (.bipush 48, 2) := by decide +kernel
theorem dX0_wish_15 : decode cX0_wish 15 = .ok (.isub, 1) := by decide +kernel
theorem dX0_wish_16 : decode cX0_wish 16 = .ok (.istore 5, 2) := by decide +kernel
theorem dX0_wish_18 : decode cX0_wish 18 = .ok (.aload_n 1, 1) := by decide +kernel
theorem dX0_wish_19 : decode cX0_wish 19 = .ok (.iload_n 3, 1) := by decide +kernel
theorem dX0_wish_20 : decode cX0_wish 20 = .ok (.invokevirtual 80, 3) := by decide +kernel
theorem dX0_wish_23 : decode cX0_wish 23 = .ok (.ifCond .eq 12, 3) := by decide +kernel
theorem dX0_wish_26 : decode cX0_wish 26 = .ok (.aload_n 1, 1) := by decide +kernel
theorem dX0_wish_27 : decode cX0_wish 27 = .ok (.iload 5, 2) := by decide +kernel
theorem dX0_wish_29 : decode cX0_wish 29 = .ok (.invokevirtual 83, 3) := by decide +kernel
theorem dX0_wish_32 : decode cX0_wish 32 = .ok (.ifCond .ne 5, 3) := by decide +kernel
theorem dX0_wish_35 : decode cX0_wish 35 = .ok (.iconst 0, 1) := by decide +kernel
theorem dX0_wish_36 : decode cX0_wish 36 = .ok (.ireturn, 1) := by decide +kernel
theorem dX0_wish_37 : decode cX0_wish 37 = .ok (.aload_n 2, 1) := by decide +kernel
theorem dX0_wish_38 : decode cX0_wish 38 = .ok (.getfield 86, 3) := by decide +kernel
theorem dX0_wish_41 : decode cX0_wish 41 = .ok (.iload_n 3, 1) := by decide +kernel
theorem dX0_wish_42 : decode cX0_wish 42 = .ok (.iload 5, 2) := by decide +kernel
theorem dX0_wish_44 : decode cX0_wish 44 = .ok (.iastore, 1) := by decide +kernel
theorem dX0_wish_45 : decode cX0_wish 45 = .ok (.aload_n 0, 1) := by decide +kernel
theorem dX0_wish_46 : decode cX0_wish 46 = .ok (.dup, 1) := by decide +kernel
theorem dX0_wish_47 : decode cX0_wish 47 = .ok (.getfield 18, 3) := by decide +kernel
theorem dX0_wish_50 : decode cX0_wish 50 = .ok (.iconst 1, 1) := by decide +kernel
theorem dX0_wish_51 : decode cX0_wish 51 = .ok (.iadd, 1) := by decide +kernel
theorem dX0_wish_52 : decode cX0_wish 52 = .ok (.putfield 18, 3) := by decide +kernel
theorem dX0_wish_55 : decode cX0_wish 55 = .ok (.iconst 1, 1) := by decide +kernel
theorem dX0_wish_56 : decode cX0_wish 56 = .ok (.ireturn, 1) := by decide +kernel
