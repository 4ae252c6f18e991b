theorem dX0_init_0 : decode cX0_init 0 = .ok (.aload_n 0, 1) := by decide +kernel
theorem dX0_init_1 : decode cX0_init 1 = .ok (.invokespecial 3, 3) := by decide +kernel
theorem dX0_init_4 : decode cX0_init 4 = .ok (.aload_n 0, 1) := by decide +kernel
theorem dX0_init_5 : decode cX0_init 5 = .ok (.iconst 0, 1) := by decide +kernel
theorem dX0_init_6 : decode cX0_init 6 = .ok (.putfield 9, 3) := by decide +kernel
theorem dX0_init_9 : decode cX0_init 9 = .ok (.aload_n 0, 1) := by decide +kernel
theorem dX0_init_10 : decode cX0_init 10 = .ok (.iconst 0, 1) := by decide +kernel
theorem dX0_init_11 : decode cX0_init 11 = .ok (.putfield 15, 3) := by decide +kernel
theorem dX0_init_14 : decode cX0_init 14 = .ok (.aload_n 0, 1) := by decide +kernel
theorem dX0_init_15 : decode cX0_init 15 = .ok (.iconst 0, 1) := by decide +kernel
theorem dX0_init_16 : decode cX0_init 16 = .ok (.putfield 18, 3) := by decide +kernel
theorem dX0_init_19 : decode cX0_init 19 = .ok (.aload_n 0, 1) := by decide +kernel
theorem dX0_init_20 : decode cX0_init 20 = .ok (.aload_n 1, 1) := by decide +kernel
theorem dX0_init_21 : decode cX0_init 21 = .ok (.putfield 21, 3) := by decide +kernel
theorem dX0_init_24 : decode cX0_init 24 = .ok (.aload_n 0, 1) := by decide +kernel
theorem dX0_init_25 : decode cX0_init 25 = .ok (.aload_n 2, 1) := by decide +kernel
theorem dX0_init_26 : decode cX0_init 26 = .ok (.putfield 25, 3) := by decide +kernel
theorem dX0_init_29 : decode cX0_init 29 = .ok (.return_, 1) := by decide +kernel
theorem dX0_flawOf_0 : decode cX0_flawOf 0 = .ok (.aload_n 0, 1) := by decide +kernel
theorem dX0_flawOf_1 : decode cX0_flawOf 1 = .ok (.getfield 29, 3) := by decide +kernel
theorem dX0_flawOf_4 : decode cX0_flawOf 4 = .ok (.ifCond .ne 5, 3) := by decide +kernel
theorem dX0_flawOf_7 : decode cX0_flawOf 7 = .ok (.iconst (-1), 1) := by decide +kernel
theorem dX0_flawOf_8 : decode cX0_flawOf 8 = .ok (.ireturn, 1) := by decide +kernel
theorem dX0_flawOf_9 : decode cX0_flawOf 9 = .ok (.aload_n 0, 1) := by decide +kernel
theorem dX0_flawOf_10 : decode cX0_flawOf 10 = .ok (.getfield 29, 3) := by decide +kernel
theorem dX0_flawOf_13 : decode cX0_flawOf 13 = .ok (.bipush 60, 2) := by decide +kernel
theorem dX0_flawOf_15 : decode cX0_flawOf 15 = .ok (.invokestatic 34, 3) := by decide +kernel
theorem dX0_flawOf_18 : decode cX0_flawOf 18 = .ok (.istore_n 1, 1) := by decide +kernel
theorem dX0_flawOf_19 : decode cX0_flawOf 19 = .ok (.iconst 0, 1) := by decide +kernel
theorem dX0_flawOf_20 : decode cX0_flawOf 20 = .ok (.istore_n 2, 1) := by decide +kernel
theorem dX0_flawOf_21 : decode cX0_flawOf 21 = .ok (.iconst 0, 1) := by decide +kernel
theorem dX0_flawOf_22 : decode cX0_flawOf 22 = .ok (.istore_n 3, 1) := by decide +kernel
theorem dX0_flawOf_23 : decode cX0_flawOf 23 = .ok (.iload_n 3, 1) := by decide +kernel
theorem dX0_flawOf_24 : decode cX0_flawOf 24 = .ok (.iload_n 1, 1) := by decide +kernel
theorem dX0_flawOf_25 : decode cX0_flawOf 25 = .ok (.if_icmp .ge 32, 3) := by decide +kernel
theorem dX0_flawOf_28 : decode cX0_flawOf 28 = .ok (.iload_n 2, 1) := by decide +kernel
theorem dX0_flawOf_29 : decode cX0_flawOf 29 = .ok (.aload_n 0, 1) := by decide +kernel
theorem dX0_flawOf_30 : decode cX0_flawOf 30 = .ok (.iload_n 3, 1) := by decide +kernel
theorem dX0_flawOf_31 : decode cX0_flawOf 31 = .ok (.invokevirtual 40, 3) := by decide +kernel
theorem dX0_flawOf_34 : decode cX0_flawOf 34 = .ok (.aload_n 0, 1) := by decide +kernel
theorem dX0_flawOf_35 : decode cX0_flawOf 35 = .ok (.iload_n 3, 1) := by decide +kernel
theorem dX0_flawOf_36 : decode cX0_flawOf 36 = .ok (.iconst 1, 1) := by decide +kernel
theorem dX0_flawOf_37 : decode cX0_flawOf 37 = .ok (.isub, 1) := by decide +kernel
theorem dX0_flawOf_38 : decode cX0_flawOf 38 = .ok (.invokevirtual 40, 3) := by decide +kernel
theorem dX0_flawOf_41 : decode cX0_flawOf 41 = .ok (.invokestatic 44, 3) := by decide +kernel
theorem dX0_flawOf_44 : decode cX0_flawOf 44 = .ok (.istore_n 2, 1) := by decide +kernel
theorem dX0_flawOf_45 : decode cX0_flawOf 45 = .ok (.iload_n 2, 1) := by decide +kernel
theorem dX0_flawOf_46 : decode cX0_flawOf 46 = .ok (.ifCond .ge 5, 3) := by decide +kernel
theorem dX0_flawOf_49 : decode cX0_flawOf 49 = .ok (.iload_n 3, 1) := by decide +kernel
theorem dX0_flawOf_50 : decode cX0_flawOf 50 = .ok (.ireturn, 1) := by decide +kernel
theorem dX0_flawOf_51 : decode cX0_flawOf 51 = .ok (.iinc 3 1, 3) := by decide +kernel
theorem dX0_flawOf_54 : decode cX0_flawOf 54 = .ok (.goto (-31), 3) := by decide +kernel
theorem dX0_flawOf_57 : decode cX0_flawOf 57 = .ok (.aload_n 0, 1) := by decide +kernel
theorem dX0_flawOf_58 : decode cX0_flawOf 58 = .ok (.bipush 60, 2) := by decide +kernel
theorem dX0_flawOf_60 : decode cX0_flawOf 60 = .ok (.iload_n 2, 1) := by decide +kernel
theorem dX0_flawOf_61 : decode cX0_flawOf 61 = .ok (.iconst 2, 1) := by decide +kernel
theorem dX0_flawOf_62 : decode cX0_flawOf 62 = .ok (.if_icmp .eq 8, 3) := by decide +kernel
theorem dX0_flawOf_65 : decode cX0_flawOf 65 = .ok (.iload_n 2, 1) := by decide +kernel
theorem dX0_flawOf_66 : decode cX0_flawOf 66 = .ok (.iconst 5, 1) := by decide +kernel
theorem dX0_flawOf_67 : decode cX0_flawOf 67 = .ok (.if_icmp .lt 7, 3) := by decide +kernel
theorem dX0_flawOf_70 : decode cX0_flawOf 70 = .ok (.iconst 1, 1) := by decide +kernel
theorem dX0_flawOf_71 : decode cX0_flawOf 71 = .ok (.goto 4, 3) := by decide +kernel
theorem dX0_flawOf_74 : decode cX0_flawOf 74 = .ok (.iconst 0, 1) := by decide +kernel
theorem dX0_flawOf_75 : decode cX0_flawOf 75 = .ok (.invokevirtual 48, 3) := by decide +kernel
theorem dX0_flawOf_78 : decode cX0_flawOf 78 = .ok (.ireturn, 1) := by decide +kernel
theorem dX0_nextPlace_0 : decode cX0_nextPlace 0 = .ok (.iload_n 0, 1) := by decide +kernel
theorem dX0_nextPlace_1 : decode cX0_nextPlace 1 = .ok (.tableswitch 148 0 5 #[39, 44, 57, 83, 96, 121], 39) := by decide +kernel
theorem dX0_nextPlace_40 : decode cX0_nextPlace 40 = .ok (.iload_n 1, 1) := by decide +kernel
theorem dX0_nextPlace_41 : decode cX0_nextPlace 41 = .ok (.invokestatic 52, 3) := by decide +kernel
theorem dX0_nextPlace_44 : decode cX0_nextPlace 44 = .ok (.ireturn, 1) := by decide +kernel
theorem dX0_nextPlace_45 : decode cX0_nextPlace 45 = .ok (.iload_n 1, 1) := by decide +kernel
theorem dX0_nextPlace_46 : decode cX0_nextPlace 46 = .ok (.invokestatic 55, 3) := by decide +kernel
theorem dX0_nextPlace_49 : decode cX0_nextPlace 49 = .ok (.ifCond .eq 7, 3) := by decide +kernel
theorem dX0_nextPlace_52 : decode cX0_nextPlace 52 = .ok (.iconst 2, 1) := by decide +kernel
theorem dX0_nextPlace_53 : decode cX0_nextPlace 53 = .ok (.goto 4, 3) := by decide +kernel
theorem dX0_nextPlace_56 : decode cX0_nextPlace 56 = .ok (.iconst (-1), 1) := by decide +kernel
theorem dX0_nextPlace_57 : decode cX0_nextPlace 57 = .ok (.ireturn, 1) := by decide +kernel
theorem dX0_nextPlace_58 : decode cX0_nextPlace 58 = .ok (.iload_n 1, 1) := by decide +kernel
theorem dX0_nextPlace_59 : decode cX0_nextPlace 59 = .ok (.invokestatic 55, 3) := by decide +kernel
theorem dX0_nextPlace_62 : decode cX0_nextPlace 62 = .ok (.ifCond .eq 10, 3) := by decide +kernel
theorem dX0_nextPlace_65 : decode cX0_nextPlace 65 = .ok (.iload_n 1, 1) := by decide +kernel
theorem dX0_nextPlace_66 : decode cX0_nextPlace 66 = .ok (.iload_n 2, 1) := by decide +kernel
theorem dX0_nextPlace_67 : decode cX0_nextPlace 67 = .ok (.if_icmp .le 5, 3) := by decide +kernel
theorem dX0_nextPlace_70 : decode cX0_nextPlace 70 = .ok (.iconst 2, 1) := by decide +kernel
theorem dX0_nextPlace_71 : decode cX0_nextPlace 71 = .ok (.ireturn, 1) := by decide +kernel
theorem dX0_nextPlace_72 : decode cX0_nextPlace 72 = .ok (.iload_n 1, 1) := by decide +kernel
theorem dX0_nextPlace_73 : decode cX0_nextPlace 73 = .ok (.bipush 59, 2) := by decide +kernel
theorem dX0_nextPlace_75 : decode cX0_nextPlace 75 = .ok (.if_icmp .ne 7, 3) := by decide +kernel
theorem dX0_nextPlace_78 : decode cX0_nextPlace 78 = .ok (.iconst 0, 1) := by decide +kernel
theorem dX0_nextPlace_79 : decode cX0_nextPlace 79 = .ok (.goto 4, 3) := by decide +kernel
theorem dX0_nextPlace_82 : decode cX0_nextPlace 82 = .ok (.iconst (-1), 1) := by decide +kernel
theorem dX0_nextPlace_83 : decode cX0_nextPlace 83 = .ok (.ireturn, 1) := by decide +kernel
theorem dX0_nextPlace_84 : decode cX0_nextPlace 84 = .ok (.iload_n 1, 1) := by decide +kernel
theorem dX0_nextPlace_85 : decode cX0_nextPlace 85 = .ok (.invokestatic 55, 3) := by decide +kernel
theorem dX0_nextPlace_88 : decode cX0_nextPlace 88 = .ok (.ifCond .eq 7, 3) := by decide +kernel
theorem dX0_nextPlace_91 : decode cX0_nextPlace 91 = .ok (.iconst 4, 1) := by decide +kernel
theorem dX0_nextPlace_92 : decode cX0_nextPlace 92 = .ok (.goto 4, 3) := by decide +kernel
theorem dX0_nextPlace_95 : decode cX0_nextPlace 95 = .ok (.iconst (-1), 1) := by decide +kernel
theorem dX0_nextPlace_96 : decode cX0_nextPlace 96 = .ok (.ireturn, 1) := by decide +kernel
theorem dX0_nextPlace_97 : decode cX0_nextPlace 97 = .ok (.iload_n 1, 1) := by decide +kernel
theorem dX0_nextPlace_98 : decode cX0_nextPlace 98 = .ok (.bipush 45, 2) := by decide +kernel
theorem dX0_nextPlace_100 : decode cX0_nextPlace 100 = .ok (.if_icmp .eq 15, 3) := by decide +kernel
theorem dX0_nextPlace_103 : decode cX0_nextPlace 103 = .ok (.iload_n 1, 1) := by decide +kernel
theorem dX0_nextPlace_104 : decode cX0_nextPlace 104 = .ok (.bipush 48, 2) := by decide +kernel
theorem dX0_nextPlace_106 : decode cX0_nextPlace 106 = .ok (.if_icmp .lt 14, 3) := by decide +kernel
theorem dX0_nextPlace_109 : decode cX0_nextPlace 109 = .ok (.iload_n 1, 1) := by decide +kernel
theorem dX0_nextPlace_110 : decode cX0_nextPlace 110 = .ok (.bipush 57, 2) := by decide +kernel
theorem dX0_nextPlace_112 : decode cX0_nextPlace 112 = .ok (.if_icmp .gt 8, 3) := by decide +kernel
theorem dX0_nextPlace_115 : decode cX0_nextPlace 115 = .ok (.bipush 6, 2) := by decide +kernel
theorem dX0_nextPlace_117 : decode cX0_nextPlace 117 = .ok (.goto 4, 3) := by decide +kernel
theorem dX0_nextPlace_120 : decode cX0_nextPlace 120 = .ok (.iconst (-1), 1) := by decide +kernel
theorem dX0_nextPlace_121 : decode cX0_nextPlace 121 = .ok (.ireturn, 1) := by decide +kernel
theorem dX0_nextPlace_122 : decode cX0_nextPlace 122 = .ok (.iload_n 1, 1) := by decide +kernel
theorem dX0_nextPlace_123 : decode cX0_nextPlace 123 = .ok (.bipush 49, 2) := by decide +kernel
theorem dX0_nextPlace_125 : decode cX0_nextPlace 125 = .ok (.if_icmp .lt 12, 3) := by decide +kernel
theorem dX0_nextPlace_128 : decode cX0_nextPlace 128 = .ok (.iload_n 1, 1) := by decide +kernel
theorem dX0_nextPlace_129 : decode cX0_nextPlace 129 = .ok (.bipush 57, 2) := by decide +kernel
theorem dX0_nextPlace_131 : decode cX0_nextPlace 131 = .ok (.if_icmp .gt 6, 3) := by decide +kernel
theorem dX0_nextPlace_134 : decode cX0_nextPlace 134 = .ok (.bipush 6, 2) := by decide +kernel
theorem dX0_nextPlace_136 : decode cX0_nextPlace 136 = .ok (.ireturn, 1) := by decide +kernel
theorem dX0_nextPlace_137 : decode cX0_nextPlace 137 = .ok (.iload_n 1, 1) := by decide +kernel
theorem dX0_nextPlace_138 : decode cX0_nextPlace 138 = .ok (.bipush 59, 2) := by decide +kernel
theorem dX0_nextPlace_140 : decode cX0_nextPlace 140 = .ok (.if_icmp .ne 7, 3) := by decide +kernel
theorem dX0_nextPlace_143 : decode cX0_nextPlace 143 = .ok (.iconst 0, 1) := by decide +kernel
theorem dX0_nextPlace_144 : decode cX0_nextPlace 144 = .ok (.goto 4, 3) := by decide +kernel
theorem dX0_nextPlace_147 : decode cX0_nextPlace 147 = .ok (.iconst (-1), 1) := by decide +kernel
theorem dX0_nextPlace_148 : decode cX0_nextPlace 148 = .ok (.ireturn, 1) := by decide +kernel
theorem dX0_nextPlace_149 : decode cX0_nextPlace 149 = .ok (.iload_n 1, 1) := by decide +kernel
theorem dX0_nextPlace_150 : decode cX0_nextPlace 150 = .ok (.bipush 59, 2) := by decide +kernel
theorem dX0_nextPlace_152 : decode cX0_nextPlace 152 = .ok (.if_icmp .ne 7, 3) := by decide +kernel
theorem dX0_nextPlace_155 : decode cX0_nextPlace 155 = .ok (.iconst 0, 1) := by decide +kernel
theorem dX0_nextPlace_156 : decode cX0_nextPlace 156 = .ok (.goto 4, 3) := by decide +kernel
theorem dX0_nextPlace_159 : decode cX0_nextPlace 159 = .ok (.iconst (-1), 1) := by decide +kernel
theorem dX0_nextPlace_160 : decode cX0_nextPlace 160 = .ok (.ireturn, 1) := by decide +kernel
theorem dX0_placeBehind_0 : decode cX0_placeBehind 0 = .ok (.iload_n 0, 1) := by decide +kernel
theorem dX0_placeBehind_1 : decode cX0_placeBehind 1 = .ok (.bipush 105, 2) := by decide +kernel
theorem dX0_placeBehind_3 : decode cX0_placeBehind 3 = .ok (.if_icmp .eq 9, 3) := by decide +kernel
theorem dX0_placeBehind_6 : decode cX0_placeBehind 6 = .ok (.iload_n 0, 1) := by decide +kernel
theorem dX0_placeBehind_7 : decode cX0_placeBehind 7 = .ok (.bipush 111, 2) := by decide +kernel
theorem dX0_placeBehind_9 : decode cX0_placeBehind 9 = .ok (.if_icmp .ne 5, 3) := by decide +kernel
theorem dX0_placeBehind_12 : decode cX0_placeBehind 12 = .ok (.iconst 1, 1) := by decide +kernel
theorem dX0_placeBehind_13 : decode cX0_placeBehind 13 = .ok (.ireturn, 1) := by decide +kernel
theorem dX0_placeBehind_14 : decode cX0_placeBehind 14 = .ok (.iload_n 0, 1) := by decide +kernel
theorem dX0_placeBehind_15 : decode cX0_placeBehind 15 = .ok (.bipush 119, 2) := by decide +kernel
theorem dX0_placeBehind_17 : decode cX0_placeBehind 17 = .ok (.if_icmp .ne 5, 3) := by decide +kernel
theorem dX0_placeBehind_20 : decode cX0_placeBehind 20 = .ok (.iconst 3, 1) := by decide +kernel
theorem dX0_placeBehind_21 : decode cX0_placeBehind 21 = .ok (.ireturn, 1) := by decide +kernel
theorem dX0_placeBehind_22 : decode cX0_placeBehind 22 = .ok (.iload_n 0, 1) := by decide +kernel
theorem dX0_placeBehind_23 : decode cX0_placeBehind 23 = .ok (.bipush 114, 2) := by decide +kernel
theorem dX0_placeBehind_25 : decode cX0_placeBehind 25 = .ok (.if_icmp .ne 7, 3) := by decide +kernel
theorem dX0_placeBehind_28 : decode cX0_placeBehind 28 = .ok (.iconst 5, 1) := by decide +kernel
theorem dX0_placeBehind_29 : decode cX0_placeBehind 29 = .ok (.goto 4, 3) := by decide +kernel
theorem dX0_placeBehind_32 : decode cX0_placeBehind 32 = .ok (.iconst (-1), 1) := by decide +kernel
theorem dX0_placeBehind_33 : decode cX0_placeBehind 33 = .ok (.ireturn, 1) := by decide +kernel
theorem dX0_isLetter_0 : decode cX0_isLetter 0 = .ok (.iload_n 0, 1) := by decide +kernel
theorem dX0_isLetter_1 : decode cX0_isLetter 1 = .ok (.bipush 97, 2) := by decide +kernel
theorem dX0_isLetter_3 : decode cX0_isLetter 3 = .ok (.if_icmp .lt 13, 3) := by decide +kernel
theorem dX0_isLetter_6 : decode cX0_isLetter 6 = .ok (.iload_n 0, 1) := by decide +kernel
theorem dX0_isLetter_7 : decode cX0_isLetter 7 = .ok (.bipush 106, 2) := by decide +kernel
theorem dX0_isLetter_9 : decode cX0_isLetter 9 = .ok (.if_icmp .gt 7, 3) := by decide +kernel
theorem dX0_isLetter_12 : decode cX0_isLetter 12 = .ok (.iconst 1, 1) := by decide +kernel
theorem dX0_isLetter_13 : decode cX0_isLetter 13 = .ok (.goto 4, 3) := by decide +kernel
theorem dX0_isLetter_16 : decode cX0_isLetter 16 = .ok (.iconst 0, 1) := by decide +kernel
theorem dX0_isLetter_17 : decode cX0_isLetter 17 = .ok (.ireturn, 1) := by decide +kernel
theorem dX0_live_0 : decode cX0_live 0 = .ok (.iconst 0, 1) := by decide +kernel
theorem dX0_live_1 : decode cX0_live 1 = .ok (.istore_n 2, 1) := by decide +kernel
theorem dX0_live_2 : decode cX0_live 2 = .ok (.iconst 0, 1) := by decide +kernel
theorem dX0_live_3 : decode cX0_live 3 = .ok (.istore_n 3, 1) := by decide +kernel
theorem dX0_live_4 : decode cX0_live 4 = .ok (.iload_n 3, 1) := by decide +kernel
theorem dX0_live_5 : decode cX0_live 5 = .ok (.aload_n 1, 1) := by decide +kernel
theorem dX0_live_6 : decode cX0_live 6 = .ok (.getfield 29, 3) := by decide +kernel
theorem dX0_live_9 : decode cX0_live 9 = .ok (.if_icmp .gt 60, 3) := by decide +kernel
theorem dX0_live_12 : decode cX0_live 12 = .ok (.aload_n 1, 1) := by decide +kernel
theorem dX0_live_13 : decode cX0_live 13 = .ok (.getfield 29, 3) := by decide +kernel
theorem dX0_live_16 : decode cX0_live 16 = .ok (.ifCond .le 53, 3) := by decide +kernel
theorem dX0_live_19 : decode cX0_live 19 = .ok (.iload_n 3, 1) := by decide +kernel
theorem dX0_live_20 : decode cX0_live 20 = .ok (.aload_n 1, 1) := by decide +kernel
theorem dX0_live_21 : decode cX0_live 21 = .ok (.getfield 29, 3) := by decide +kernel
theorem dX0_live_24 : decode cX0_live 24 = .ok (.if_icmp .eq 13, 3) := by decide +kernel
theorem dX0_live_27 : decode cX0_live 27 = .ok (.aload_n 1, 1) := by decide +kernel
theorem dX0_live_28 : decode cX0_live 28 = .ok (.iload_n 3, 1) := by decide +kernel
theorem dX0_live_29 : decode cX0_live 29 = .ok (.invokevirtual 40, 3) := by decide +kernel
theorem dX0_live_32 : decode cX0_live 32 = .ok (.bipush 59, 2) := by decide +kernel
theorem dX0_live_34 : decode cX0_live 34 = .ok (.if_icmp .ne 29, 3) := by decide +kernel
theorem dX0_live_37 : decode cX0_live 37 = .ok (.aload_n 0, 1) := by decide +kernel
theorem dX0_live_38 : decode cX0_live 38 = .ok (.aload_n 1, 1) := by decide +kernel
theorem dX0_live_39 : decode cX0_live 39 = .ok (.iload_n 2, 1) := by decide +kernel
theorem dX0_live_40 : decode cX0_live 40 = .ok (.iload_n 3, 1) := by decide +kernel
theorem dX0_live_41 : decode cX0_live 41 = .ok (.invokevirtual 59, 3) := by decide +kernel
theorem dX0_live_44 : decode cX0_live 44 = .ok (.ifCond .ne 5, 3) := by decide +kernel
theorem dX0_live_47 : decode cX0_live 47 = .ok (.iconst 0, 1) := by decide +kernel
theorem dX0_live_48 : decode cX0_live 48 = .ok (.ireturn, 1) := by decide +kernel
theorem dX0_live_49 : decode cX0_live 49 = .ok (.aload_n 0, 1) := by decide +kernel
theorem dX0_live_50 : decode cX0_live 50 = .ok (.dup, 1) := by decide +kernel
theorem dX0_live_51 : decode cX0_live 51 = .ok (.getfield 9, 3) := by decide +kernel
theorem dX0_live_54 : decode cX0_live 54 = .ok (.iconst 1, 1) := by decide +kernel
theorem dX0_live_55 : decode cX0_live 55 = .ok (.iadd, 1) := by decide +kernel
theorem dX0_live_56 : decode cX0_live 56 = .ok (.putfield 9, 3) := by decide +kernel
theorem dX0_live_59 : decode cX0_live 59 = .ok (.iload_n 3, 1) := by decide +kernel
theorem dX0_live_60 : decode cX0_live 60 = .ok (.iconst 1, 1) := by decide +kernel
theorem dX0_live_61 : decode cX0_live 61 = .ok (.iadd, 1) := by decide +kernel
theorem dX0_live_62 : decode cX0_live 62 = .ok (.istore_n 2, 1) := by decide +kernel
theorem dX0_live_63 : decode cX0_live 63 = .ok (.iinc 3 1, 3) := by decide +kernel
theorem dX0_live_66 : decode cX0_live 66 = .ok (.goto (-62), 3) := by decide +kernel
theorem dX0_live_69 : decode cX0_live 69 = .ok (.iconst 1, 1) := by decide +kernel
theorem dX0_live_70 : decode cX0_live 70 = .ok (.ireturn, 1) := by decide +kernel
theorem dX0_act_0 : decode cX0_act 0 = .ok (.aload_n 1, 1) := by decide +kernel
theorem dX0_act_1 : decode cX0_act 1 = .ok (.iload_n 2, 1) := by decide +kernel
theorem dX0_act_2 : decode cX0_act 2 = .ok (.invokevirtual 40, 3) := by decide +kernel
theorem dX0_act_5 : decode cX0_act 5 = .ok (.lookupswitch 65 #[(105, 35), (111, 35), (119, 43)], 35) := by decide +kernel
theorem dX0_act_40 : decode cX0_act 40 = .ok (.aload_n 0, 1) := by decide +kernel
theorem dX0_act_41 : decode cX0_act 41 = .ok (.aload_n 1, 1) := by decide +kernel
theorem dX0_act_42 : decode cX0_act 42 = .ok (.iload_n 2, 1) := by decide +kernel
theorem dX0_act_43 : decode cX0_act 43 = .ok (.iload_n 3, 1) := by decide +kernel
theorem dX0_act_44 : decode cX0_act 44 = .ok (.invokevirtual 63, 3) := by decide +kernel
theorem dX0_act_47 : decode cX0_act 47 = .ok (.ireturn, 1) := by decide +kernel
theorem dX0_act_48 : decode cX0_act 48 = .ok (.aload_n 0, 1) := by decide +kernel
theorem dX0_act_49 : decode cX0_act 49 = .ok (.aload_n 1, 1) := by decide +kernel
theorem dX0_act_50 : decode cX0_act 50 = .ok (.iload_n 2, 1) := by decide +kernel
theorem dX0_act_51 : decode cX0_act 51 = .ok (.iconst 1, 1) := by decide +kernel
theorem dX0_act_52 : decode cX0_act 52 = .ok (.iadd, 1) := by decide +kernel
theorem dX0_act_53 : decode cX0_act 53 = .ok (.invokevirtual 40, 3) := by decide +kernel
theorem dX0_act_56 : decode cX0_act 56 = .ok (.bipush 97, 2) := by decide +kernel
theorem dX0_act_58 : decode cX0_act 58 = .ok (.isub, 1) := by decide +kernel
theorem dX0_act_59 : decode cX0_act 59 = .ok (.aload_n 1, 1) := by decide +kernel
theorem dX0_act_60 : decode cX0_act 60 = .ok (.iload_n 2, 1) := by decide +kernel
theorem dX0_act_61 : decode cX0_act 61 = .ok (.iconst 2, 1) := by decide +kernel
theorem dX0_act_62 : decode cX0_act 62 = .ok (.iadd, 1) := by decide +kernel
theorem dX0_act_63 : decode cX0_act 63 = .ok (.invokevirtual 40, 3) := by decide +kernel
theorem dX0_act_66 : decode cX0_act 66 = .ok (.invokevirtual 66, 3) := by decide +kernel
theorem dX0_act_69 : decode cX0_act 69 = .ok (.ireturn, 1) := by decide +kernel
theorem dX0_act_70 : decode cX0_act 70 = .ok (.iload_n 2, 1) := by decide +kernel
theorem dX0_act_71 : decode cX0_act 71 = .ok (.iconst 1, 1) := by decide +kernel
theorem dX0_act_72 : decode cX0_act 72 = .ok (.iadd, 1) := by decide +kernel
theorem dX0_act_73 : decode cX0_act 73 = .ok (.iload_n 3, 1) := by decide +kernel
theorem dX0_act_74 : decode cX0_act 74 = .ok (.if_icmp .ge 16, 3) := by decide +kernel
theorem dX0_act_77 : decode cX0_act 77 = .ok (.aload_n 1, 1) := by decide +kernel
theorem dX0_act_78 : decode cX0_act 78 = .ok (.iload_n 2, 1) := by decide +kernel
theorem dX0_act_79 : decode cX0_act 79 = .ok (.iconst 1, 1) := by decide +kernel
theorem dX0_act_80 : decode cX0_act 80 = .ok (.iadd, 1) := by decide +kernel
theorem dX0_act_81 : decode cX0_act 81 = .ok (.invokevirtual 40, 3) := by decide +kernel
theorem dX0_act_84 : decode cX0_act 84 = .ok (.bipush 48, 2) := by decide +kernel
theorem dX0_act_86 : decode cX0_act 86 = .ok (.isub, 1) := by decide +kernel
theorem dX0_act_87 : decode cX0_act 87 = .ok (.goto 4, 3) := by decide +kernel
theorem dX0_act_90 : decode cX0_act 90 = .ok (.iconst 1, 1) := by decide +kernel
theorem dX0_act_91 : decode cX0_act 91 = .ok (.istore 4, 2) := by decide +kernel
theorem dX0_act_93 : decode cX0_act 93 = .ok (.iconst 0, 1) := by decide +kernel
theorem dX0_act_94 : decode cX0_act 94 = .ok (.istore 5, 2) := by decide +kernel
theorem dX0_act_96 : decode cX0_act 96 = .ok (.iload 5, 2) := by decide +kernel
theorem dX0_act_98 : decode cX0_act 98 = .ok (.iload 4, 2) := by decide +kernel
theorem dX0_act_100 : decode cX0_act 100 = .ok (.if_icmp .ge 41, 3) := by decide +kernel
theorem dX0_act_103 : decode cX0_act 103 = .ok (.aload_n 0, 1) := by decide +kernel
theorem dX0_act_104 : decode cX0_act 104 = .ok (.getfield 21, 3) := by decide +kernel
theorem dX0_act_107 : decode cX0_act 107 = .ok (.aload_n 0, 1) := by decide +kernel
theorem dX0_act_108 : decode cX0_act 108 = .ok (.getfield 25, 3) := by decide +kernel
theorem dX0_act_111 : decode cX0_act 111 = .ok (.invokevirtual 70, 3) := by decide +kernel
theorem dX0_act_114 : decode cX0_act 114 = .ok (.pop, 1) := by decide +kernel
theorem dX0_act_115 : decode cX0_act 115 = .ok (.aload_n 0, 1) := by decide +kernel
theorem dX0_act_116 : decode cX0_act 116 = .ok (.dup, 1) := by decide +kernel
theorem dX0_act_117 : decode cX0_act 117 = .ok (.getfield 15, 3) := by decide +kernel
theorem dX0_act_120 : decode cX0_act 120 = .ok (.iconst 1, 1) := by decide +kernel
theorem dX0_act_121 : decode cX0_act 121 = .ok (.iadd, 1) := by decide +kernel
theorem dX0_act_122 : decode cX0_act 122 = .ok (.putfield 15, 3) := by decide +kernel
theorem dX0_act_125 : decode cX0_act 125 = .ok (.aload_n 0, 1) := by decide +kernel
theorem dX0_act_126 : decode cX0_act 126 = .ok (.dup, 1) := by decide +kernel
theorem dX0_act_127 : decode cX0_act 127 = .ok (.getfield 18, 3) := by decide +kernel
theorem dX0_act_130 : decode cX0_act 130 = .ok (.iconst 1, 1) := by decide +kernel
theorem dX0_act_131 : decode cX0_act 131 = .ok (.iadd, 1) := by decide +kernel
theorem dX0_act_132 : decode cX0_act 132 = .ok (.putfield 18, 3) := by decide +kernel
theorem dX0_act_135 : decode cX0_act 135 = .ok (.iinc 5 1, 3) := by decide +kernel
theorem dX0_act_138 : decode cX0_act 138 = .ok (.goto (-42), 3) := by decide +kernel
theorem dX0_act_141 : decode cX0_act 141 = .ok (.iconst 1, 1) := by decide +kernel
theorem dX0_act_142 : decode cX0_act 142 = .ok (.ireturn, 1) := by decide +kernel
theorem dX0_pass_0 : decode cX0_pass 0 = .ok (.aload_n 1, 1) := by decide +kernel
theorem dX0_pass_1 : decode cX0_pass 1 = .ok (.iload_n 2, 1) := by decide +kernel
theorem dX0_pass_2 : decode cX0_pass 2 = .ok (.invokevirtual 40, 3) := by decide +kernel
theorem dX0_pass_5 : decode cX0_pass 5 = .ok (.bipush 105, 2) := by decide +kernel
theorem dX0_pass_7 : decode cX0_pass 7 = .ok (.if_icmp .ne 7, 3) := by decide +kernel
theorem dX0_pass_10 : decode cX0_pass 10 = .ok (.iconst 1, 1) := by decide +kernel
theorem dX0_pass_11 : decode cX0_pass 11 = .ok (.goto 4, 3) := by decide +kernel
theorem dX0_pass_14 : decode cX0_pass 14 = .ok (.iconst 0, 1) := by decide +kernel
theorem dX0_pass_15 : decode cX0_pass 15 = .ok (.istore 4, 2) := by decide +kernel
theorem dX0_pass_17 : decode cX0_pass 17 = .ok (.iload_n 2, 1) := by decide +kernel
theorem dX0_pass_18 : decode cX0_pass 18 = .ok (.iconst 1, 1) := by decide +kernel
theorem dX0_pass_19 : decode cX0_pass 19 = .ok (.iadd, 1) := by decide +kernel
theorem dX0_pass_20 : decode cX0_pass 20 = .ok (.istore 5, 2) := by decide +kernel
theorem dX0_pass_22 : decode cX0_pass 22 = .ok (.iload 5, 2) := by decide +kernel
theorem dX0_pass_24 : decode cX0_pass 24 = .ok (.iload_n 3, 1) := by decide +kernel
theorem dX0_pass_25 : decode cX0_pass 25 = .ok (.if_icmp .ge 80, 3) := by decide +kernel
theorem dX0_pass_28 : decode cX0_pass 28 = .ok (.aload_n 1, 1) := by decide +kernel
theorem dX0_pass_29 : decode cX0_pass 29 = .ok (.iload 5, 2) := by decide +kernel
theorem dX0_pass_31 : decode cX0_pass 31 = .ok (.invokevirtual 40, 3) := by decide +kernel
theorem dX0_pass_34 : decode cX0_pass 34 = .ok (.bipush 97, 2) := by decide +kernel
theorem dX0_pass_36 : decode cX0_pass 36 = .ok (.isub, 1) := by decide +kernel
theorem dX0_pass_37 : decode cX0_pass 37 = .ok (.istore 6, 2) := by decide +kernel
theorem dX0_pass_39 : decode cX0_pass 39 = .ok (.iload 4, 2) := by decide +kernel
theorem dX0_pass_41 : decode cX0_pass 41 = .ok (.ifCond .eq 18, 3) := by decide +kernel
theorem dX0_pass_44 : decode cX0_pass 44 = .ok (.aload_n 0, 1) := by decide +kernel
theorem dX0_pass_45 : decode cX0_pass 45 = .ok (.getfield 25, 3) := by decide +kernel
theorem dX0_pass_48 : decode cX0_pass 48 = .ok (.iload 6, 2) := by decide +kernel
theorem dX0_pass_50 : decode cX0_pass 50 = .ok (.invokevirtual 76, 3) := by decide +kernel
theorem dX0_pass_53 : decode cX0_pass 53 = .ok (.ifCond .ne 20, 3) := by decide +kernel
theorem dX0_pass_56 : decode cX0_pass 56 = .ok (.goto 15, 3) := by decide +kernel
theorem dX0_pass_59 : decode cX0_pass 59 = .ok (.aload_n 0, 1) := by decide +kernel
theorem dX0_pass_60 : decode cX0_pass 60 = .ok (.getfield 25, 3) := by decide +kernel
theorem dX0_pass_63 : decode cX0_pass 63 = .ok (.iload 6, 2) := by decide +kernel
theorem dX0_pass_65 : decode cX0_pass 65 = .ok (.invokevirtual 81, 3) := by decide +kernel
theorem dX0_pass_68 : decode cX0_pass 68 = .ok (.ifCond .ne 5, 3) := by decide +kernel
theorem dX0_pass_71 : decode cX0_pass 71 = .ok (.iconst 0, 1) := by decide +kernel
theorem dX0_pass_72 : decode cX0_pass 72 = .ok (.ireturn, 1) := by decide +kernel
theorem dX0_pass_73 : decode cX0_pass 73 = .ok (.aload_n 0, 1) := by decide +kernel
theorem dX0_pass_74 : decode cX0_pass 74 = .ok (.getfield 25, 3) := by decide +kernel
theorem dX0_pass_77 : decode cX0_pass 77 = .ok (.dup, 1) := by decide +kernel
theorem dX0_pass_78 : decode cX0_pass 78 = .ok (.getfield 84, 3) := by decide +kernel
theorem dX0_pass_81 : decode cX0_pass 81 = .ok (.iconst 1, 1) := by decide +kernel
theorem dX0_pass_82 : decode cX0_pass 82 = .ok (.iload 6, 2) := by decide +kernel
theorem dX0_pass_84 : decode cX0_pass 84 = .ok (.ishl, 1) := by decide +kernel
theorem dX0_pass_85 : decode cX0_pass 85 = .ok (.ixor, 1) := by decide +kernel
theorem dX0_pass_86 : decode cX0_pass 86 = .ok (.putfield 84, 3) := by decide +kernel
theorem dX0_pass_89 : decode cX0_pass 89 = .ok (.aload_n 0, 1) := by decide +kernel
theorem dX0_pass_90 : decode cX0_pass 90 = .ok (.dup, 1) := by decide +kernel
theorem dX0_pass_91 : decode cX0_pass 91 = .ok (.getfield 18, 3) := by decide +kernel
theorem dX0_pass_94 : decode cX0_pass 94 = .ok (.iconst 1, 1) := by decide +kernel
theorem dX0_pass_95 : decode cX0_pass 95 = .ok (.iadd, 1) := by decide +kernel
theorem dX0_pass_96 : decode cX0_pass 96 = .ok (.putfield 18, 3) := by decide +kernel
theorem dX0_pass_99 : decode cX0_pass 99 = .ok (.iinc 5 1, 3) := by decide +kernel
theorem dX0_pass_102 : decode cX0_pass 102 = .ok (.goto (-80), 3) := by decide +kernel
theorem dX0_pass_105 : decode cX0_pass 105 = .ok (.iconst 1, 1) := by decide +kernel
theorem dX0_pass_106 : decode cX0_pass 106 = .ok (.ireturn, 1) := by decide +kernel
theorem dX0_wish_0 : decode cX0_wish 0 = .ok (.iload_n 2, 1) := by decide +kernel
theorem dX0_wish_1 : decode cX0_wish 1 = .ok (.bipush 45, 2) := by decide +kernel
theorem dX0_wish_3 : decode cX0_wish 3 = .ok (.if_icmp .ne 7, 3) := by decide +kernel
theorem dX0_wish_6 : decode cX0_wish 6 = .ok (.iconst (-1), 1) := by decide +kernel
theorem dX0_wish_7 : decode cX0_wish 7 = .ok (.goto 7, 3) := by decide +kernel
theorem dX0_wish_10 : decode cX0_wish 10 = .ok (.iload_n 2, 1) := by decide +kernel
theorem dX0_wish_11 : decode cX0_wish 11 = .ok (.bipush 48, 2) := by decide +kernel
theorem dX0_wish_13 : decode cX0_wish 13 = .ok (.isub, 1) := by decide +kernel
theorem dX0_wish_14 : decode cX0_wish 14 = .ok (.istore_n 3, 1) := by decide +kernel
theorem dX0_wish_15 : decode cX0_wish 15 = .ok (.aload_n 0, 1) := by decide +kernel
theorem dX0_wish_16 : decode cX0_wish 16 = .ok (.getfield 21, 3) := by decide +kernel
theorem dX0_wish_19 : decode cX0_wish 19 = .ok (.iload_n 1, 1) := by decide +kernel
theorem dX0_wish_20 : decode cX0_wish 20 = .ok (.invokevirtual 87, 3) := by decide +kernel
theorem dX0_wish_23 : decode cX0_wish 23 = .ok (.ifCond .eq 14, 3) := by decide +kernel
theorem dX0_wish_26 : decode cX0_wish 26 = .ok (.aload_n 0, 1) := by decide +kernel
theorem dX0_wish_27 : decode cX0_wish 27 = .ok (.getfield 21, 3) := by decide +kernel
theorem dX0_wish_30 : decode cX0_wish 30 = .ok (.iload_n 3, 1) := by decide +kernel
theorem dX0_wish_31 : decode cX0_wish 31 = .ok (.invokevirtual 90, 3) := by decide +kernel
theorem dX0_wish_34 : decode cX0_wish 34 = .ok (.ifCond .ne 5, 3) := by decide +kernel
theorem dX0_wish_37 : decode cX0_wish 37 = .ok (.iconst 0, 1) := by decide +kernel
theorem dX0_wish_38 : decode cX0_wish 38 = .ok (.ireturn, 1) := by decide +kernel
theorem dX0_wish_39 : decode cX0_wish 39 = .ok (.aload_n 0, 1) := by decide +kernel
theorem dX0_wish_40 : decode cX0_wish 40 = .ok (.getfield 25, 3) := by decide +kernel
theorem dX0_wish_43 : decode cX0_wish 43 = .ok (.getfield 93, 3) := by decide +kernel
theorem dX0_wish_46 : decode cX0_wish 46 = .ok (.iload_n 1, 1) := by decide +kernel
theorem dX0_wish_47 : decode cX0_wish 47 = .ok (.iload_n 3, 1) := by decide +kernel
theorem dX0_wish_48 : decode cX0_wish 48 = .ok (.iastore, 1) := by decide +kernel
theorem dX0_wish_49 : decode cX0_wish 49 = .ok (.aload_n 0, 1) := by decide +kernel
theorem dX0_wish_50 : decode cX0_wish 50 = .ok (.dup, 1) := by decide +kernel
theorem dX0_wish_51 : decode cX0_wish 51 = .ok (.getfield 18, 3) := by decide +kernel
theorem dX0_wish_54 : decode cX0_wish 54 = .ok (.iconst 1, 1) := by decide +kernel
theorem dX0_wish_55 : decode cX0_wish 55 = .ok (.iadd, 1) := by decide +kernel
theorem dX0_wish_56 : decode cX0_wish 56 = .ok (.putfield 18, 3) := by decide +kernel
theorem dX0_wish_59 : decode cX0_wish 59 = .ok (.iconst 1, 1) := by decide +kernel
theorem dX0_wish_60 : decode cX0_wish 60 = .ok (.ireturn, 1) := by decide +kernel
