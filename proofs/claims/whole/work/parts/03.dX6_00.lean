theorem dX6_init_0 : decode cX6_init 0 = .ok (.aload_n 0, 1) := by decide +kernel
theorem dX6_init_1 : decode cX6_init 1 = .ok (.invokespecial 3, 3) := by decide +kernel
theorem dX6_init_4 : decode cX6_init 4 = .ok (.aload_n 0, 1) := by decide +kernel
theorem dX6_init_5 : decode cX6_init 5 = .ok (.new 9, 3) := by decide +kernel
theorem dX6_init_8 : decode cX6_init 8 = .ok (.dup, 1) := by decide +kernel
theorem dX6_init_9 : decode cX6_init 9 = .ok (.invokespecial 11, 3) := by decide +kernel
theorem dX6_init_12 : decode cX6_init 12 = .ok (.putfield 12, 3) := by decide +kernel
theorem dX6_init_15 : decode cX6_init 15 = .ok (.aload_n 0, 1) := by decide +kernel
theorem dX6_init_16 : decode cX6_init 16 = .ok (.sipush 3000, 3) := by decide +kernel
theorem dX6_init_19 : decode cX6_init 19 = .ok (.newarray .long, 2) := by decide +kernel
theorem dX6_init_21 : decode cX6_init 21 = .ok (.putfield 18, 3) := by decide +kernel
theorem dX6_init_24 : decode cX6_init 24 = .ok (.aload_n 0, 1) := by decide +kernel
theorem dX6_init_25 : decode cX6_init 25 = .ok (.sipush 3000, 3) := by decide +kernel
theorem dX6_init_28 : decode cX6_init 28 = .ok (.newarray .int, 2) := by decide +kernel
theorem dX6_init_30 : decode cX6_init 30 = .ok (.putfield 22, 3) := by decide +kernel
theorem dX6_init_33 : decode cX6_init 33 = .ok (.aload_n 0, 1) := by decide +kernel
theorem dX6_init_34 : decode cX6_init 34 = .ok (.sipush 4096, 3) := by decide +kernel
theorem dX6_init_37 : decode cX6_init 37 = .ok (.newarray .int, 2) := by decide +kernel
theorem dX6_init_39 : decode cX6_init 39 = .ok (.putfield 26, 3) := by decide +kernel
theorem dX6_init_42 : decode cX6_init 42 = .ok (.aload_n 0, 1) := by decide +kernel
theorem dX6_init_43 : decode cX6_init 43 = .ok (.iconst 0, 1) := by decide +kernel
theorem dX6_init_44 : decode cX6_init 44 = .ok (.putfield 29, 3) := by decide +kernel
theorem dX6_init_47 : decode cX6_init 47 = .ok (.aload_n 0, 1) := by decide +kernel
theorem dX6_init_48 : decode cX6_init 48 = .ok (.iconst 0, 1) := by decide +kernel
theorem dX6_init_49 : decode cX6_init 49 = .ok (.putfield 33, 3) := by decide +kernel
theorem dX6_init_52 : decode cX6_init 52 = .ok (.aload_n 0, 1) := by decide +kernel
theorem dX6_init_53 : decode cX6_init 53 = .ok (.iconst 0, 1) := by decide +kernel
theorem dX6_init_54 : decode cX6_init 54 = .ok (.putfield 36, 3) := by decide +kernel
theorem dX6_init_57 : decode cX6_init 57 = .ok (.aload_n 0, 1) := by decide +kernel
theorem dX6_init_58 : decode cX6_init 58 = .ok (.iconst 0, 1) := by decide +kernel
theorem dX6_init_59 : decode cX6_init 59 = .ok (.putfield 40, 3) := by decide +kernel
theorem dX6_init_62 : decode cX6_init 62 = .ok (.aload_n 0, 1) := by decide +kernel
theorem dX6_init_63 : decode cX6_init 63 = .ok (.iconst 0, 1) := by decide +kernel
theorem dX6_init_64 : decode cX6_init 64 = .ok (.putfield 43, 3) := by decide +kernel
theorem dX6_init_67 : decode cX6_init 67 = .ok (.aload_n 0, 1) := by decide +kernel
theorem dX6_init_68 : decode cX6_init 68 = .ok (.iconst 0, 1) := by decide +kernel
theorem dX6_init_69 : decode cX6_init 69 = .ok (.putfield 46, 3) := by decide +kernel
theorem dX6_init_72 : decode cX6_init 72 = .ok (.return_, 1) := by decide +kernel
theorem dX6_wantNothing_0 : decode cX6_wantNothing 0 = .ok (.aload_n 0, 1) := by decide +kernel
theorem dX6_wantNothing_1 : decode cX6_wantNothing 1 = .ok (.iconst 0, 1) := by decide +kernel
theorem dX6_wantNothing_2 : decode cX6_wantNothing 2 = .ok (.putfield 40, 3) := by decide +kernel
theorem dX6_wantNothing_5 : decode cX6_wantNothing 5 = .ok (.return_, 1) := by decide +kernel
theorem dX6_wantHome_0 : decode cX6_wantHome 0 = .ok (.aload_n 0, 1) := by decide +kernel
theorem dX6_wantHome_1 : decode cX6_wantHome 1 = .ok (.iconst 1, 1) := by decide +kernel
theorem dX6_wantHome_2 : decode cX6_wantHome 2 = .ok (.putfield 40, 3) := by decide +kernel
theorem dX6_wantHome_5 : decode cX6_wantHome 5 = .ok (.aload_n 0, 1) := by decide +kernel
theorem dX6_wantHome_6 : decode cX6_wantHome 6 = .ok (.iload_n 1, 1) := by decide +kernel
theorem dX6_wantHome_7 : decode cX6_wantHome 7 = .ok (.putfield 43, 3) := by decide +kernel
theorem dX6_wantHome_10 : decode cX6_wantHome 10 = .ok (.return_, 1) := by decide +kernel
theorem dX6_wantGathered_0 : decode cX6_wantGathered 0 = .ok (.aload_n 0, 1) := by decide +kernel
theorem dX6_wantGathered_1 : decode cX6_wantGathered 1 = .ok (.iconst 2, 1) := by decide +kernel
theorem dX6_wantGathered_2 : decode cX6_wantGathered 2 = .ok (.putfield 40, 3) := by decide +kernel
theorem dX6_wantGathered_5 : decode cX6_wantGathered 5 = .ok (.aload_n 0, 1) := by decide +kernel
theorem dX6_wantGathered_6 : decode cX6_wantGathered 6 = .ok (.iload_n 1, 1) := by decide +kernel
theorem dX6_wantGathered_7 : decode cX6_wantGathered 7 = .ok (.putfield 46, 3) := by decide +kernel
theorem dX6_wantGathered_10 : decode cX6_wantGathered 10 = .ok (.aload_n 0, 1) := by decide +kernel
theorem dX6_wantGathered_11 : decode cX6_wantGathered 11 = .ok (.iload_n 2, 1) := by decide +kernel
theorem dX6_wantGathered_12 : decode cX6_wantGathered 12 = .ok (.putfield 43, 3) := by decide +kernel
theorem dX6_wantGathered_15 : decode cX6_wantGathered 15 = .ok (.return_, 1) := by decide +kernel
theorem dX6_seek_0 : decode cX6_seek 0 = .ok (.aload_n 0, 1) := by decide +kernel
theorem dX6_seek_1 : decode cX6_seek 1 = .ok (.getfield 26, 3) := by decide +kernel
theorem dX6_seek_4 : decode cX6_seek 4 = .ok (.iconst 0, 1) := by decide +kernel
theorem dX6_seek_5 : decode cX6_seek 5 = .ok (.invokestatic 49, 3) := by decide +kernel
theorem dX6_seek_8 : decode cX6_seek 8 = .ok (.aload_n 0, 1) := by decide +kernel
theorem dX6_seek_9 : decode cX6_seek 9 = .ok (.iconst 0, 1) := by decide +kernel
theorem dX6_seek_10 : decode cX6_seek 10 = .ok (.putfield 29, 3) := by decide +kernel
theorem dX6_seek_13 : decode cX6_seek 13 = .ok (.aload_n 0, 1) := by decide +kernel
theorem dX6_seek_14 : decode cX6_seek 14 = .ok (.iconst 0, 1) := by decide +kernel
theorem dX6_seek_15 : decode cX6_seek 15 = .ok (.putfield 33, 3) := by decide +kernel
theorem dX6_seek_18 : decode cX6_seek 18 = .ok (.aload_n 0, 1) := by decide +kernel
theorem dX6_seek_19 : decode cX6_seek 19 = .ok (.iconst 0, 1) := by decide +kernel
theorem dX6_seek_20 : decode cX6_seek 20 = .ok (.putfield 36, 3) := by decide +kernel
theorem dX6_seek_23 : decode cX6_seek 23 = .ok (.aload_n 0, 1) := by decide +kernel
theorem dX6_seek_24 : decode cX6_seek 24 = .ok (.getfield 12, 3) := by decide +kernel
theorem dX6_seek_27 : decode cX6_seek 27 = .ok (.aload_n 2, 1) := by decide +kernel
theorem dX6_seek_28 : decode cX6_seek 28 = .ok (.invokevirtual 55, 3) := by decide +kernel
theorem dX6_seek_31 : decode cX6_seek 31 = .ok (.aload_n 0, 1) := by decide +kernel
theorem dX6_seek_32 : decode cX6_seek 32 = .ok (.getfield 12, 3) := by decide +kernel
theorem dX6_seek_35 : decode cX6_seek 35 = .ok (.aload_n 2, 1) := by decide +kernel
theorem dX6_seek_36 : decode cX6_seek 36 = .ok (.getfield 59, 3) := by decide +kernel
theorem dX6_seek_39 : decode cX6_seek 39 = .ok (.bipush 7, 2) := by decide +kernel
theorem dX6_seek_41 : decode cX6_seek 41 = .ok (.irem, 1) := by decide +kernel
theorem dX6_seek_42 : decode cX6_seek 42 = .ok (.putfield 59, 3) := by decide +kernel
theorem dX6_seek_45 : decode cX6_seek 45 = .ok (.aload_n 0, 1) := by decide +kernel
theorem dX6_seek_46 : decode cX6_seek 46 = .ok (.aload_n 0, 1) := by decide +kernel
theorem dX6_seek_47 : decode cX6_seek 47 = .ok (.getfield 12, 3) := by decide +kernel
theorem dX6_seek_50 : decode cX6_seek 50 = .ok (.invokestatic 60, 3) := by decide +kernel
theorem dX6_seek_53 : decode cX6_seek 53 = .ok (.iconst 0, 1) := by decide +kernel
theorem dX6_seek_54 : decode cX6_seek 54 = .ok (.iconst 0, 1) := by decide +kernel
theorem dX6_seek_55 : decode cX6_seek 55 = .ok (.invokevirtual 64, 3) := by decide +kernel
theorem dX6_seek_58 : decode cX6_seek 58 = .ok (.istore 4, 2) := by decide +kernel
theorem dX6_seek_60 : decode cX6_seek 60 = .ok (.aload_n 0, 1) := by decide +kernel
theorem dX6_seek_61 : decode cX6_seek 61 = .ok (.iload 4, 2) := by decide +kernel
theorem dX6_seek_63 : decode cX6_seek 63 = .ok (.invokevirtual 68, 3) := by decide +kernel
theorem dX6_seek_66 : decode cX6_seek 66 = .ok (.ifCond .eq 6, 3) := by decide +kernel
theorem dX6_seek_69 : decode cX6_seek 69 = .ok (.iload 4, 2) := by decide +kernel
theorem dX6_seek_71 : decode cX6_seek 71 = .ok (.ireturn, 1) := by decide +kernel
theorem dX6_seek_72 : decode cX6_seek 72 = .ok (.iconst (-1), 1) := by decide +kernel
theorem dX6_seek_73 : decode cX6_seek 73 = .ok (.istore 4, 2) := by decide +kernel
theorem dX6_seek_75 : decode cX6_seek 75 = .ok (.iconst 0, 1) := by decide +kernel
theorem dX6_seek_76 : decode cX6_seek 76 = .ok (.istore 5, 2) := by decide +kernel
theorem dX6_seek_78 : decode cX6_seek 78 = .ok (.iconst 0, 1) := by decide +kernel
theorem dX6_seek_79 : decode cX6_seek 79 = .ok (.istore 6, 2) := by decide +kernel
theorem dX6_seek_81 : decode cX6_seek 81 = .ok (.iload 6, 2) := by decide +kernel
theorem dX6_seek_83 : decode cX6_seek 83 = .ok (.sipush 3000, 3) := by decide +kernel
theorem dX6_seek_86 : decode cX6_seek 86 = .ok (.if_icmp .ge 73, 3) := by decide +kernel
theorem dX6_seek_89 : decode cX6_seek 89 = .ok (.iload 6, 2) := by decide +kernel
theorem dX6_seek_91 : decode cX6_seek 91 = .ok (.aload_n 0, 1) := by decide +kernel
theorem dX6_seek_92 : decode cX6_seek 92 = .ok (.getfield 29, 3) := by decide +kernel
theorem dX6_seek_95 : decode cX6_seek 95 = .ok (.if_icmp .ge 64, 3) := by decide +kernel
theorem dX6_seek_98 : decode cX6_seek 98 = .ok (.iload 4, 2) := by decide +kernel
theorem dX6_seek_100 : decode cX6_seek 100 = .ok (.iconst (-1), 1) := by decide +kernel
theorem dX6_seek_101 : decode cX6_seek 101 = .ok (.if_icmp .ne 58, 3) := by decide +kernel
theorem dX6_seek_104 : decode cX6_seek 104 = .ok (.aload_n 0, 1) := by decide +kernel
theorem dX6_seek_105 : decode cX6_seek 105 = .ok (.getfield 36, 3) := by decide +kernel
theorem dX6_seek_108 : decode cX6_seek 108 = .ok (.ifCond .ne 51, 3) := by decide +kernel
theorem dX6_seek_111 : decode cX6_seek 111 = .ok (.iload 6, 2) := by decide +kernel
theorem dX6_seek_113 : decode cX6_seek 113 = .ok (.iload 5, 2) := by decide +kernel
theorem dX6_seek_115 : decode cX6_seek 115 = .ok (.if_icmp .ne 29, 3) := by decide +kernel
theorem dX6_seek_118 : decode cX6_seek 118 = .ok (.aload_n 0, 1) := by decide +kernel
theorem dX6_seek_119 : decode cX6_seek 119 = .ok (.getfield 33, 3) := by decide +kernel
theorem dX6_seek_122 : decode cX6_seek 122 = .ok (.iload_n 3, 1) := by decide +kernel
theorem dX6_seek_123 : decode cX6_seek 123 = .ok (.if_icmp .lt 5, 3) := by decide +kernel
theorem dX6_seek_126 : decode cX6_seek 126 = .ok (.iconst (-1), 1) := by decide +kernel
theorem dX6_seek_127 : decode cX6_seek 127 = .ok (.ireturn, 1) := by decide +kernel
theorem dX6_seek_128 : decode cX6_seek 128 = .ok (.aload_n 0, 1) := by decide +kernel
theorem dX6_seek_129 : decode cX6_seek 129 = .ok (.dup, 1) := by decide +kernel
theorem dX6_seek_130 : decode cX6_seek 130 = .ok (.getfield 33, 3) := by decide +kernel
theorem dX6_seek_133 : decode cX6_seek 133 = .ok (.iconst 1, 1) := by decide +kernel
theorem dX6_seek_134 : decode cX6_seek 134 = .ok (.iadd, 1) := by decide +kernel
theorem dX6_seek_135 : decode cX6_seek 135 = .ok (.putfield 33, 3) := by decide +kernel
theorem dX6_seek_138 : decode cX6_seek 138 = .ok (.aload_n 0, 1) := by decide +kernel
theorem dX6_seek_139 : decode cX6_seek 139 = .ok (.getfield 29, 3) := by decide +kernel
theorem dX6_seek_142 : decode cX6_seek 142 = .ok (.istore 5, 2) := by decide +kernel
theorem dX6_seek_144 : decode cX6_seek 144 = .ok (.aload_n 0, 1) := by decide +kernel
theorem dX6_seek_145 : decode cX6_seek 145 = .ok (.aload_n 1, 1) := by decide +kernel
theorem dX6_seek_146 : decode cX6_seek 146 = .ok (.iload 6, 2) := by decide +kernel
theorem dX6_seek_148 : decode cX6_seek 148 = .ok (.invokevirtual 72, 3) := by decide +kernel
theorem dX6_seek_151 : decode cX6_seek 151 = .ok (.istore 4, 2) := by decide +kernel
theorem dX6_seek_153 : decode cX6_seek 153 = .ok (.iinc 6 1, 3) := by decide +kernel
theorem dX6_seek_156 : decode cX6_seek 156 = .ok (.goto (-75), 3) := by decide +kernel
theorem dX6_seek_159 : decode cX6_seek 159 = .ok (.iload 4, 2) := by decide +kernel
theorem dX6_seek_161 : decode cX6_seek 161 = .ok (.ireturn, 1) := by decide +kernel
theorem dX6_goOnFrom_0 : decode cX6_goOnFrom 0 = .ok (.aload_n 0, 1) := by decide +kernel
theorem dX6_goOnFrom_1 : decode cX6_goOnFrom 1 = .ok (.aload_n 0, 1) := by decide +kernel
theorem dX6_goOnFrom_2 : decode cX6_goOnFrom 2 = .ok (.getfield 18, 3) := by decide +kernel
theorem dX6_goOnFrom_5 : decode cX6_goOnFrom 5 = .ok (.iload_n 2, 1) := by decide +kernel
theorem dX6_goOnFrom_6 : decode cX6_goOnFrom 6 = .ok (.laload, 1) := by decide +kernel
theorem dX6_goOnFrom_7 : decode cX6_goOnFrom 7 = .ok (.invokevirtual 76, 3) := by decide +kernel
theorem dX6_goOnFrom_10 : decode cX6_goOnFrom 10 = .ok (.aload_n 0, 1) := by decide +kernel
theorem dX6_goOnFrom_11 : decode cX6_goOnFrom 11 = .ok (.getfield 12, 3) := by decide +kernel
theorem dX6_goOnFrom_14 : decode cX6_goOnFrom 14 = .ok (.aload_n 0, 1) := by decide +kernel
theorem dX6_goOnFrom_15 : decode cX6_goOnFrom 15 = .ok (.getfield 12, 3) := by decide +kernel
theorem dX6_goOnFrom_18 : decode cX6_goOnFrom 18 = .ok (.getfield 80, 3) := by decide +kernel
theorem dX6_goOnFrom_21 : decode cX6_goOnFrom 21 = .ok (.invokevirtual 83, 3) := by decide +kernel
theorem dX6_goOnFrom_24 : decode cX6_goOnFrom 24 = .ok (.istore_n 3, 1) := by decide +kernel
theorem dX6_goOnFrom_25 : decode cX6_goOnFrom 25 = .ok (.iload_n 3, 1) := by decide +kernel
theorem dX6_goOnFrom_26 : decode cX6_goOnFrom 26 = .ok (.invokestatic 87, 3) := by decide +kernel
theorem dX6_goOnFrom_29 : decode cX6_goOnFrom 29 = .ok (.istore 4, 2) := by decide +kernel
theorem dX6_goOnFrom_31 : decode cX6_goOnFrom 31 = .ok (.iconst 0, 1) := by decide +kernel
theorem dX6_goOnFrom_32 : decode cX6_goOnFrom 32 = .ok (.istore 5, 2) := by decide +kernel
theorem dX6_goOnFrom_34 : decode cX6_goOnFrom 34 = .ok (.iconst 0, 1) := by decide +kernel
theorem dX6_goOnFrom_35 : decode cX6_goOnFrom 35 = .ok (.istore 6, 2) := by decide +kernel
theorem dX6_goOnFrom_37 : decode cX6_goOnFrom 37 = .ok (.iload 6, 2) := by decide +kernel
theorem dX6_goOnFrom_39 : decode cX6_goOnFrom 39 = .ok (.iload 4, 2) := by decide +kernel
theorem dX6_goOnFrom_41 : decode cX6_goOnFrom 41 = .ok (.if_icmp .ge 73, 3) := by decide +kernel
theorem dX6_goOnFrom_44 : decode cX6_goOnFrom 44 = .ok (.aload_n 0, 1) := by decide +kernel
theorem dX6_goOnFrom_45 : decode cX6_goOnFrom 45 = .ok (.getfield 36, 3) := by decide +kernel
theorem dX6_goOnFrom_48 : decode cX6_goOnFrom 48 = .ok (.ifCond .ne 66, 3) := by decide +kernel
theorem dX6_goOnFrom_51 : decode cX6_goOnFrom 51 = .ok (.aload_n 1, 1) := by decide +kernel
theorem dX6_goOnFrom_52 : decode cX6_goOnFrom 52 = .ok (.aload_n 0, 1) := by decide +kernel
theorem dX6_goOnFrom_53 : decode cX6_goOnFrom 53 = .ok (.getfield 12, 3) := by decide +kernel
theorem dX6_goOnFrom_56 : decode cX6_goOnFrom 56 = .ok (.iload 5, 2) := by decide +kernel
theorem dX6_goOnFrom_58 : decode cX6_goOnFrom 58 = .ok (.invokevirtual 90, 3) := by decide +kernel
theorem dX6_goOnFrom_61 : decode cX6_goOnFrom 61 = .ok (.istore 7, 2) := by decide +kernel
theorem dX6_goOnFrom_63 : decode cX6_goOnFrom 63 = .ok (.aload_n 0, 1) := by decide +kernel
theorem dX6_goOnFrom_64 : decode cX6_goOnFrom 64 = .ok (.aload_n 0, 1) := by decide +kernel
theorem dX6_goOnFrom_65 : decode cX6_goOnFrom 65 = .ok (.iload 5, 2) := by decide +kernel
theorem dX6_goOnFrom_67 : decode cX6_goOnFrom 67 = .ok (.aload_n 1, 1) := by decide +kernel
theorem dX6_goOnFrom_68 : decode cX6_goOnFrom 68 = .ok (.iload 5, 2) := by decide +kernel
theorem dX6_goOnFrom_70 : decode cX6_goOnFrom 70 = .ok (.iload 7, 2) := by decide +kernel
theorem dX6_goOnFrom_72 : decode cX6_goOnFrom 72 = .ok (.invokevirtual 96, 3) := by decide +kernel
theorem dX6_goOnFrom_75 : decode cX6_goOnFrom 75 = .ok (.iload 7, 2) := by decide +kernel
theorem dX6_goOnFrom_77 : decode cX6_goOnFrom 77 = .ok (.invokevirtual 100, 3) := by decide +kernel
theorem dX6_goOnFrom_80 : decode cX6_goOnFrom 80 = .ok (.iload_n 2, 1) := by decide +kernel
theorem dX6_goOnFrom_81 : decode cX6_goOnFrom 81 = .ok (.iload 5, 2) := by decide +kernel
theorem dX6_goOnFrom_83 : decode cX6_goOnFrom 83 = .ok (.invokevirtual 64, 3) := by decide +kernel
theorem dX6_goOnFrom_86 : decode cX6_goOnFrom 86 = .ok (.istore 8, 2) := by decide +kernel
theorem dX6_goOnFrom_88 : decode cX6_goOnFrom 88 = .ok (.aload_n 0, 1) := by decide +kernel
theorem dX6_goOnFrom_89 : decode cX6_goOnFrom 89 = .ok (.iload 8, 2) := by decide +kernel
theorem dX6_goOnFrom_91 : decode cX6_goOnFrom 91 = .ok (.invokevirtual 68, 3) := by decide +kernel
theorem dX6_goOnFrom_94 : decode cX6_goOnFrom 94 = .ok (.ifCond .eq 6, 3) := by decide +kernel
theorem dX6_goOnFrom_97 : decode cX6_goOnFrom 97 = .ok (.iload 8, 2) := by decide +kernel
theorem dX6_goOnFrom_99 : decode cX6_goOnFrom 99 = .ok (.ireturn, 1) := by decide +kernel
theorem dX6_goOnFrom_100 : decode cX6_goOnFrom 100 = .ok (.iload 5, 2) := by decide +kernel
theorem dX6_goOnFrom_102 : decode cX6_goOnFrom 102 = .ok (.iload_n 3, 1) := by decide +kernel
theorem dX6_goOnFrom_103 : decode cX6_goOnFrom 103 = .ok (.invokestatic 104, 3) := by decide +kernel
theorem dX6_goOnFrom_106 : decode cX6_goOnFrom 106 = .ok (.istore 5, 2) := by decide +kernel
theorem dX6_goOnFrom_108 : decode cX6_goOnFrom 108 = .ok (.iinc 6 1, 3) := by decide +kernel
theorem dX6_goOnFrom_111 : decode cX6_goOnFrom 111 = .ok (.goto (-74), 3) := by decide +kernel
theorem dX6_goOnFrom_114 : decode cX6_goOnFrom 114 = .ok (.iconst (-1), 1) := by decide +kernel
theorem dX6_goOnFrom_115 : decode cX6_goOnFrom 115 = .ok (.ireturn, 1) := by decide +kernel
theorem dX6_keyOf_0 : decode cX6_keyOf 0 = .ok (.aload_n 0, 1) := by decide +kernel
theorem dX6_keyOf_1 : decode cX6_keyOf 1 = .ok (.getfield 59, 3) := by decide +kernel
theorem dX6_keyOf_4 : decode cX6_keyOf 4 = .ok (.i2l, 1) := by decide +kernel
theorem dX6_keyOf_5 : decode cX6_keyOf 5 = .ok (.iconst 4, 1) := by decide +kernel
theorem dX6_keyOf_6 : decode cX6_keyOf 6 = .ok (.lshl, 1) := by decide +kernel
theorem dX6_keyOf_7 : decode cX6_keyOf 7 = .ok (.aload_n 0, 1) := by decide +kernel
theorem dX6_keyOf_8 : decode cX6_keyOf 8 = .ok (.getfield 80, 3) := by decide +kernel
theorem dX6_keyOf_11 : decode cX6_keyOf 11 = .ok (.i2l, 1) := by decide +kernel
theorem dX6_keyOf_12 : decode cX6_keyOf 12 = .ok (.lor, 1) := by decide +kernel
theorem dX6_keyOf_13 : decode cX6_keyOf 13 = .ok (.lstore_n 1, 1) := by decide +kernel
theorem dX6_keyOf_14 : decode cX6_keyOf 14 = .ok (.bipush 9, 2) := by decide +kernel
theorem dX6_keyOf_16 : decode cX6_keyOf 16 = .ok (.istore_n 3, 1) := by decide +kernel
theorem dX6_keyOf_17 : decode cX6_keyOf 17 = .ok (.iload_n 3, 1) := by decide +kernel
theorem dX6_keyOf_18 : decode cX6_keyOf 18 = .ok (.ifCond .lt 23, 3) := by decide +kernel
theorem dX6_keyOf_21 : decode cX6_keyOf 21 = .ok (.lload_n 1, 1) := by decide +kernel
theorem dX6_keyOf_22 : decode cX6_keyOf 22 = .ok (.iconst 4, 1) := by decide +kernel
theorem dX6_keyOf_23 : decode cX6_keyOf 23 = .ok (.lshl, 1) := by decide +kernel
theorem dX6_keyOf_24 : decode cX6_keyOf 24 = .ok (.aload_n 0, 1) := by decide +kernel
theorem dX6_keyOf_25 : decode cX6_keyOf 25 = .ok (.getfield 107, 3) := by decide +kernel
theorem dX6_keyOf_28 : decode cX6_keyOf 28 = .ok (.iload_n 3, 1) := by decide +kernel
theorem dX6_keyOf_29 : decode cX6_keyOf 29 = .ok (.iaload, 1) := by decide +kernel
theorem dX6_keyOf_30 : decode cX6_keyOf 30 = .ok (.iconst 1, 1) := by decide +kernel
theorem dX6_keyOf_31 : decode cX6_keyOf 31 = .ok (.iadd, 1) := by decide +kernel
theorem dX6_keyOf_32 : decode cX6_keyOf 32 = .ok (.i2l, 1) := by decide +kernel
theorem dX6_keyOf_33 : decode cX6_keyOf 33 = .ok (.lor, 1) := by decide +kernel
theorem dX6_keyOf_34 : decode cX6_keyOf 34 = .ok (.lstore_n 1, 1) := by decide +kernel
theorem dX6_keyOf_35 : decode cX6_keyOf 35 = .ok (.iinc 3 (-1), 3) := by decide +kernel
theorem dX6_keyOf_38 : decode cX6_keyOf 38 = .ok (.goto (-21), 3) := by decide +kernel
theorem dX6_keyOf_41 : decode cX6_keyOf 41 = .ok (.lload_n 1, 1) := by decide +kernel
theorem dX6_keyOf_42 : decode cX6_keyOf 42 = .ok (.lreturn, 1) := by decide +kernel
theorem dX6_bringUp_0 : decode cX6_bringUp 0 = .ok (.iconst 0, 1) := by decide +kernel
theorem dX6_bringUp_1 : decode cX6_bringUp 1 = .ok (.istore_n 3, 1) := by decide +kernel
theorem dX6_bringUp_2 : decode cX6_bringUp 2 = .ok (.iload_n 3, 1) := by decide +kernel
theorem dX6_bringUp_3 : decode cX6_bringUp 3 = .ok (.bipush 10, 2) := by decide +kernel
theorem dX6_bringUp_5 : decode cX6_bringUp 5 = .ok (.if_icmp .ge 23, 3) := by decide +kernel
theorem dX6_bringUp_8 : decode cX6_bringUp 8 = .ok (.aload_n 0, 1) := by decide +kernel
theorem dX6_bringUp_9 : decode cX6_bringUp 9 = .ok (.getfield 12, 3) := by decide +kernel
theorem dX6_bringUp_12 : decode cX6_bringUp 12 = .ok (.getfield 107, 3) := by decide +kernel
theorem dX6_bringUp_15 : decode cX6_bringUp 15 = .ok (.iload_n 3, 1) := by decide +kernel
theorem dX6_bringUp_16 : decode cX6_bringUp 16 = .ok (.lload_n 1, 1) := by decide +kernel
theorem dX6_bringUp_17 : decode cX6_bringUp 17 = .ok (.iload_n 3, 1) := by decide +kernel
theorem dX6_bringUp_18 : decode cX6_bringUp 18 = .ok (.invokestatic 110, 3) := by decide +kernel
theorem dX6_bringUp_21 : decode cX6_bringUp 21 = .ok (.iastore, 1) := by decide +kernel
theorem dX6_bringUp_22 : decode cX6_bringUp 22 = .ok (.iinc 3 1, 3) := by decide +kernel
theorem dX6_bringUp_25 : decode cX6_bringUp 25 = .ok (.goto (-23), 3) := by decide +kernel
theorem dX6_bringUp_28 : decode cX6_bringUp 28 = .ok (.aload_n 0, 1) := by decide +kernel
theorem dX6_bringUp_29 : decode cX6_bringUp 29 = .ok (.getfield 12, 3) := by decide +kernel
theorem dX6_bringUp_32 : decode cX6_bringUp 32 = .ok (.lload_n 1, 1) := by decide +kernel
theorem dX6_bringUp_33 : decode cX6_bringUp 33 = .ok (.invokestatic 114, 3) := by decide +kernel
theorem dX6_bringUp_36 : decode cX6_bringUp 36 = .ok (.putfield 80, 3) := by decide +kernel
theorem dX6_bringUp_39 : decode cX6_bringUp 39 = .ok (.aload_n 0, 1) := by decide +kernel
theorem dX6_bringUp_40 : decode cX6_bringUp 40 = .ok (.getfield 12, 3) := by decide +kernel
theorem dX6_bringUp_43 : decode cX6_bringUp 43 = .ok (.lload_n 1, 1) := by decide +kernel
theorem dX6_bringUp_44 : decode cX6_bringUp 44 = .ok (.bipush 44, 2) := by decide +kernel
theorem dX6_bringUp_46 : decode cX6_bringUp 46 = .ok (.lushr, 1) := by decide +kernel
theorem dX6_bringUp_47 : decode cX6_bringUp 47 = .ok (.l2i, 1) := by decide +kernel
theorem dX6_bringUp_48 : decode cX6_bringUp 48 = .ok (.putfield 59, 3) := by decide +kernel
theorem dX6_bringUp_51 : decode cX6_bringUp 51 = .ok (.return_, 1) := by decide +kernel
theorem dX6_floorOf_0 : decode cX6_floorOf 0 = .ok (.lload_n 0, 1) := by decide +kernel
theorem dX6_floorOf_1 : decode cX6_floorOf 1 = .ok (.iconst 4, 1) := by decide +kernel
theorem dX6_floorOf_2 : decode cX6_floorOf 2 = .ok (.iload_n 2, 1) := by decide +kernel
theorem dX6_floorOf_3 : decode cX6_floorOf 3 = .ok (.imul, 1) := by decide +kernel
theorem dX6_floorOf_4 : decode cX6_floorOf 4 = .ok (.lushr, 1) := by decide +kernel
theorem dX6_floorOf_5 : decode cX6_floorOf 5 = .ok (.ldc2_w 118, 3) := by decide +kernel
theorem dX6_floorOf_8 : decode cX6_floorOf 8 = .ok (.land, 1) := by decide +kernel
theorem dX6_floorOf_9 : decode cX6_floorOf 9 = .ok (.l2i, 1) := by decide +kernel
theorem dX6_floorOf_10 : decode cX6_floorOf 10 = .ok (.iconst 1, 1) := by decide +kernel
theorem dX6_floorOf_11 : decode cX6_floorOf 11 = .ok (.isub, 1) := by decide +kernel
theorem dX6_floorOf_12 : decode cX6_floorOf 12 = .ok (.ireturn, 1) := by decide +kernel
theorem dX6_liftOf_0 : decode cX6_liftOf 0 = .ok (.lload_n 0, 1) := by decide +kernel
theorem dX6_liftOf_1 : decode cX6_liftOf 1 = .ok (.bipush 40, 2) := by decide +kernel
theorem dX6_liftOf_3 : decode cX6_liftOf 3 = .ok (.lushr, 1) := by decide +kernel
theorem dX6_liftOf_4 : decode cX6_liftOf 4 = .ok (.ldc2_w 118, 3) := by decide +kernel
theorem dX6_liftOf_7 : decode cX6_liftOf 7 = .ok (.land, 1) := by decide +kernel
theorem dX6_liftOf_8 : decode cX6_liftOf 8 = .ok (.l2i, 1) := by decide +kernel
theorem dX6_liftOf_9 : decode cX6_liftOf 9 = .ok (.ireturn, 1) := by decide +kernel
theorem dX6_keyAfter_0 : decode cX6_keyAfter 0 = .ok (.aload_n 0, 1) := by decide +kernel
theorem dX6_keyAfter_1 : decode cX6_keyAfter 1 = .ok (.getfield 12, 3) := by decide +kernel
theorem dX6_keyAfter_4 : decode cX6_keyAfter 4 = .ok (.getfield 59, 3) := by decide +kernel
theorem dX6_keyAfter_7 : decode cX6_keyAfter 7 = .ok (.iconst 1, 1) := by decide +kernel
theorem dX6_keyAfter_8 : decode cX6_keyAfter 8 = .ok (.iadd, 1) := by decide +kernel
theorem dX6_keyAfter_9 : decode cX6_keyAfter 9 = .ok (.bipush 7, 2) := by decide +kernel
theorem dX6_keyAfter_11 : decode cX6_keyAfter 11 = .ok (.irem, 1) := by decide +kernel
theorem dX6_keyAfter_12 : decode cX6_keyAfter 12 = .ok (.i2l, 1) := by decide +kernel
theorem dX6_keyAfter_13 : decode cX6_keyAfter 13 = .ok (.iconst 4, 1) := by decide +kernel
theorem dX6_keyAfter_14 : decode cX6_keyAfter 14 = .ok (.lshl, 1) := by decide +kernel
theorem dX6_keyAfter_15 : decode cX6_keyAfter 15 = .ok (.iload_n 3, 1) := by decide +kernel
theorem dX6_keyAfter_16 : decode cX6_keyAfter 16 = .ok (.i2l, 1) := by decide +kernel
theorem dX6_keyAfter_17 : decode cX6_keyAfter 17 = .ok (.lor, 1) := by decide +kernel
theorem dX6_keyAfter_18 : decode cX6_keyAfter 18 = .ok (.lstore 4, 2) := by decide +kernel
theorem dX6_keyAfter_20 : decode cX6_keyAfter 20 = .ok (.bipush 9, 2) := by decide +kernel
theorem dX6_keyAfter_22 : decode cX6_keyAfter 22 = .ok (.istore 6, 2) := by decide +kernel
theorem dX6_keyAfter_24 : decode cX6_keyAfter 24 = .ok (.iload 6, 2) := by decide +kernel
theorem dX6_keyAfter_26 : decode cX6_keyAfter 26 = .ok (.ifCond .lt 59, 3) := by decide +kernel
theorem dX6_keyAfter_29 : decode cX6_keyAfter 29 = .ok (.iload_n 1, 1) := by decide +kernel
theorem dX6_keyAfter_30 : decode cX6_keyAfter 30 = .ok (.iload 6, 2) := by decide +kernel
theorem dX6_keyAfter_32 : decode cX6_keyAfter 32 = .ok (.ishr, 1) := by decide +kernel
theorem dX6_keyAfter_33 : decode cX6_keyAfter 33 = .ok (.iconst 1, 1) := by decide +kernel
theorem dX6_keyAfter_34 : decode cX6_keyAfter 34 = .ok (.iand, 1) := by decide +kernel
theorem dX6_keyAfter_35 : decode cX6_keyAfter 35 = .ok (.ifCond .ne 16, 3) := by decide +kernel
theorem dX6_keyAfter_38 : decode cX6_keyAfter 38 = .ok (.aload_n 0, 1) := by decide +kernel
theorem dX6_keyAfter_39 : decode cX6_keyAfter 39 = .ok (.getfield 12, 3) := by decide +kernel
theorem dX6_keyAfter_42 : decode cX6_keyAfter 42 = .ok (.getfield 107, 3) := by decide +kernel
theorem dX6_keyAfter_45 : decode cX6_keyAfter 45 = .ok (.iload 6, 2) := by decide +kernel
theorem dX6_keyAfter_47 : decode cX6_keyAfter 47 = .ok (.iaload, 1) := by decide +kernel
theorem dX6_keyAfter_48 : decode cX6_keyAfter 48 = .ok (.goto 4, 3) := by decide +kernel
theorem dX6_keyAfter_51 : decode cX6_keyAfter 51 = .ok (.iload_n 3, 1) := by decide +kernel
theorem dX6_keyAfter_52 : decode cX6_keyAfter 52 = .ok (.istore 7, 2) := by decide +kernel
theorem dX6_keyAfter_54 : decode cX6_keyAfter 54 = .ok (.lload 4, 2) := by decide +kernel
theorem dX6_keyAfter_56 : decode cX6_keyAfter 56 = .ok (.iconst 4, 1) := by decide +kernel
theorem dX6_keyAfter_57 : decode cX6_keyAfter 57 = .ok (.lshl, 1) := by decide +kernel
theorem dX6_keyAfter_58 : decode cX6_keyAfter 58 = .ok (.iload_n 2, 1) := by decide +kernel
theorem dX6_keyAfter_59 : decode cX6_keyAfter 59 = .ok (.iload 6, 2) := by decide +kernel
theorem dX6_keyAfter_61 : decode cX6_keyAfter 61 = .ok (.ishr, 1) := by decide +kernel
theorem dX6_keyAfter_62 : decode cX6_keyAfter 62 = .ok (.iconst 1, 1) := by decide +kernel
theorem dX6_keyAfter_63 : decode cX6_keyAfter 63 = .ok (.iand, 1) := by decide +kernel
theorem dX6_keyAfter_64 : decode cX6_keyAfter 64 = .ok (.ifCond .ne 10, 3) := by decide +kernel
theorem dX6_keyAfter_67 : decode cX6_keyAfter 67 = .ok (.iload 7, 2) := by decide +kernel
theorem dX6_keyAfter_69 : decode cX6_keyAfter 69 = .ok (.iconst 1, 1) := by decide +kernel
theorem dX6_keyAfter_70 : decode cX6_keyAfter 70 = .ok (.iadd, 1) := by decide +kernel
theorem dX6_keyAfter_71 : decode cX6_keyAfter 71 = .ok (.goto 4, 3) := by decide +kernel
theorem dX6_keyAfter_74 : decode cX6_keyAfter 74 = .ok (.iconst 0, 1) := by decide +kernel
theorem dX6_keyAfter_75 : decode cX6_keyAfter 75 = .ok (.i2l, 1) := by decide +kernel
theorem dX6_keyAfter_76 : decode cX6_keyAfter 76 = .ok (.lor, 1) := by decide +kernel
theorem dX6_keyAfter_77 : decode cX6_keyAfter 77 = .ok (.lstore 4, 2) := by decide +kernel
theorem dX6_keyAfter_79 : decode cX6_keyAfter 79 = .ok (.iinc 6 (-1), 3) := by decide +kernel
theorem dX6_keyAfter_82 : decode cX6_keyAfter 82 = .ok (.goto (-58), 3) := by decide +kernel
theorem dX6_keyAfter_85 : decode cX6_keyAfter 85 = .ok (.lload 4, 2) := by decide +kernel
theorem dX6_keyAfter_87 : decode cX6_keyAfter 87 = .ok (.lreturn, 1) := by decide +kernel
theorem dX6_add_0 : decode cX6_add 0 = .ok (.lload_n 1, 1) := by decide +kernel
theorem dX6_add_1 : decode cX6_add 1 = .ok (.ldc2_w 120, 3) := by decide +kernel
theorem dX6_add_4 : decode cX6_add 4 = .ok (.lmul, 1) := by decide +kernel
theorem dX6_add_5 : decode cX6_add 5 = .ok (.bipush 52, 2) := by decide +kernel
theorem dX6_add_7 : decode cX6_add 7 = .ok (.lushr, 1) := by decide +kernel
theorem dX6_add_8 : decode cX6_add 8 = .ok (.l2i, 1) := by decide +kernel
theorem dX6_add_9 : decode cX6_add 9 = .ok (.sipush 4095, 3) := by decide +kernel
theorem dX6_add_12 : decode cX6_add 12 = .ok (.iand, 1) := by decide +kernel
theorem dX6_add_13 : decode cX6_add 13 = .ok (.istore 5, 2) := by decide +kernel
theorem dX6_add_15 : decode cX6_add 15 = .ok (.iconst 0, 1) := by decide +kernel
theorem dX6_add_16 : decode cX6_add 16 = .ok (.istore 6, 2) := by decide +kernel
theorem dX6_add_18 : decode cX6_add 18 = .ok (.iload 6, 2) := by decide +kernel
theorem dX6_add_20 : decode cX6_add 20 = .ok (.sipush 4096, 3) := by decide +kernel
theorem dX6_add_23 : decode cX6_add 23 = .ok (.if_icmp .ge 50, 3) := by decide +kernel
theorem dX6_add_26 : decode cX6_add 26 = .ok (.aload_n 0, 1) := by decide +kernel
theorem dX6_add_27 : decode cX6_add 27 = .ok (.getfield 26, 3) := by decide +kernel
theorem dX6_add_30 : decode cX6_add 30 = .ok (.iload 5, 2) := by decide +kernel
theorem dX6_add_32 : decode cX6_add 32 = .ok (.iaload, 1) := by decide +kernel
theorem dX6_add_33 : decode cX6_add 33 = .ok (.ifCond .eq 40, 3) := by decide +kernel
theorem dX6_add_36 : decode cX6_add 36 = .ok (.aload_n 0, 1) := by decide +kernel
theorem dX6_add_37 : decode cX6_add 37 = .ok (.getfield 18, 3) := by decide +kernel
theorem dX6_add_40 : decode cX6_add 40 = .ok (.aload_n 0, 1) := by decide +kernel
theorem dX6_add_41 : decode cX6_add 41 = .ok (.getfield 26, 3) := by decide +kernel
theorem dX6_add_44 : decode cX6_add 44 = .ok (.iload 5, 2) := by decide +kernel
theorem dX6_add_46 : decode cX6_add 46 = .ok (.iaload, 1) := by decide +kernel
theorem dX6_add_47 : decode cX6_add 47 = .ok (.iconst 1, 1) := by decide +kernel
theorem dX6_add_48 : decode cX6_add 48 = .ok (.isub, 1) := by decide +kernel
theorem dX6_add_49 : decode cX6_add 49 = .ok (.laload, 1) := by decide +kernel
theorem dX6_add_50 : decode cX6_add 50 = .ok (.lload_n 1, 1) := by decide +kernel
theorem dX6_add_51 : decode cX6_add 51 = .ok (.lcmp, 1) := by decide +kernel
theorem dX6_add_52 : decode cX6_add 52 = .ok (.ifCond .ne 5, 3) := by decide +kernel
theorem dX6_add_55 : decode cX6_add 55 = .ok (.iconst (-1), 1) := by decide +kernel
theorem dX6_add_56 : decode cX6_add 56 = .ok (.ireturn, 1) := by decide +kernel
theorem dX6_add_57 : decode cX6_add 57 = .ok (.iload 5, 2) := by decide +kernel
theorem dX6_add_59 : decode cX6_add 59 = .ok (.iconst 1, 1) := by decide +kernel
theorem dX6_add_60 : decode cX6_add 60 = .ok (.iadd, 1) := by decide +kernel
theorem dX6_add_61 : decode cX6_add 61 = .ok (.sipush 4095, 3) := by decide +kernel
theorem dX6_add_64 : decode cX6_add 64 = .ok (.iand, 1) := by decide +kernel
theorem dX6_add_65 : decode cX6_add 65 = .ok (.istore 5, 2) := by decide +kernel
theorem dX6_add_67 : decode cX6_add 67 = .ok (.iinc 6 1, 3) := by decide +kernel
theorem dX6_add_70 : decode cX6_add 70 = .ok (.goto (-52), 3) := by decide +kernel
theorem dX6_add_73 : decode cX6_add 73 = .ok (.aload_n 0, 1) := by decide +kernel
theorem dX6_add_74 : decode cX6_add 74 = .ok (.getfield 29, 3) := by decide +kernel
theorem dX6_add_77 : decode cX6_add 77 = .ok (.sipush 3000, 3) := by decide +kernel
theorem dX6_add_80 : decode cX6_add 80 = .ok (.if_icmp .lt 10, 3) := by decide +kernel
theorem dX6_add_83 : decode cX6_add 83 = .ok (.aload_n 0, 1) := by decide +kernel
theorem dX6_add_84 : decode cX6_add 84 = .ok (.iconst 1, 1) := by decide +kernel
theorem dX6_add_85 : decode cX6_add 85 = .ok (.putfield 36, 3) := by decide +kernel
theorem dX6_add_88 : decode cX6_add 88 = .ok (.iconst (-1), 1) := by decide +kernel
theorem dX6_add_89 : decode cX6_add 89 = .ok (.ireturn, 1) := by decide +kernel
theorem dX6_add_90 : decode cX6_add 90 = .ok (.aload_n 0, 1) := by decide +kernel
theorem dX6_add_91 : decode cX6_add 91 = .ok (.getfield 18, 3) := by decide +kernel
theorem dX6_add_94 : decode cX6_add 94 = .ok (.aload_n 0, 1) := by decide +kernel
theorem dX6_add_95 : decode cX6_add 95 = .ok (.getfield 29, 3) := by decide +kernel
theorem dX6_add_98 : decode cX6_add 98 = .ok (.lload_n 1, 1) := by decide +kernel
theorem dX6_add_99 : decode cX6_add 99 = .ok (.lastore, 1) := by decide +kernel
theorem dX6_add_100 : decode cX6_add 100 = .ok (.aload_n 0, 1) := by decide +kernel
theorem dX6_add_101 : decode cX6_add 101 = .ok (.getfield 22, 3) := by decide +kernel
theorem dX6_add_104 : decode cX6_add 104 = .ok (.aload_n 0, 1) := by decide +kernel
theorem dX6_add_105 : decode cX6_add 105 = .ok (.getfield 29, 3) := by decide +kernel
theorem dX6_add_108 : decode cX6_add 108 = .ok (.iload_n 3, 1) := by decide +kernel
theorem dX6_add_109 : decode cX6_add 109 = .ok (.bipush 10, 2) := by decide +kernel
theorem dX6_add_111 : decode cX6_add 111 = .ok (.ishl, 1) := by decide +kernel
theorem dX6_add_112 : decode cX6_add 112 = .ok (.iload 4, 2) := by decide +kernel
theorem dX6_add_114 : decode cX6_add 114 = .ok (.ior, 1) := by decide +kernel
theorem dX6_add_115 : decode cX6_add 115 = .ok (.iastore, 1) := by decide +kernel
theorem dX6_add_116 : decode cX6_add 116 = .ok (.aload_n 0, 1) := by decide +kernel
theorem dX6_add_117 : decode cX6_add 117 = .ok (.getfield 26, 3) := by decide +kernel
theorem dX6_add_120 : decode cX6_add 120 = .ok (.iload 5, 2) := by decide +kernel
theorem dX6_add_122 : decode cX6_add 122 = .ok (.aload_n 0, 1) := by decide +kernel
theorem dX6_add_123 : decode cX6_add 123 = .ok (.getfield 29, 3) := by decide +kernel
theorem dX6_add_126 : decode cX6_add 126 = .ok (.iconst 1, 1) := by decide +kernel
theorem dX6_add_127 : decode cX6_add 127 = .ok (.iadd, 1) := by decide +kernel
theorem dX6_add_128 : decode cX6_add 128 = .ok (.iastore, 1) := by decide +kernel
theorem dX6_add_129 : decode cX6_add 129 = .ok (.aload_n 0, 1) := by decide +kernel
theorem dX6_add_130 : decode cX6_add 130 = .ok (.dup, 1) := by decide +kernel
theorem dX6_add_131 : decode cX6_add 131 = .ok (.getfield 29, 3) := by decide +kernel
theorem dX6_add_134 : decode cX6_add 134 = .ok (.iconst 1, 1) := by decide +kernel
theorem dX6_add_135 : decode cX6_add 135 = .ok (.iadd, 1) := by decide +kernel
theorem dX6_add_136 : decode cX6_add 136 = .ok (.putfield 29, 3) := by decide +kernel
theorem dX6_add_139 : decode cX6_add 139 = .ok (.aload_n 0, 1) := by decide +kernel
theorem dX6_add_140 : decode cX6_add 140 = .ok (.getfield 29, 3) := by decide +kernel
theorem dX6_add_143 : decode cX6_add 143 = .ok (.iconst 1, 1) := by decide +kernel
theorem dX6_add_144 : decode cX6_add 144 = .ok (.isub, 1) := by decide +kernel
theorem dX6_add_145 : decode cX6_add 145 = .ok (.ireturn, 1) := by decide +kernel
theorem dX6_isState_0 : decode cX6_isState 0 = .ok (.iload_n 1, 1) := by decide +kernel
theorem dX6_isState_1 : decode cX6_isState 1 = .ok (.ifCond .lt 15, 3) := by decide +kernel
theorem dX6_isState_4 : decode cX6_isState 4 = .ok (.iload_n 1, 1) := by decide +kernel
theorem dX6_isState_5 : decode cX6_isState 5 = .ok (.aload_n 0, 1) := by decide +kernel
theorem dX6_isState_6 : decode cX6_isState 6 = .ok (.getfield 29, 3) := by decide +kernel
theorem dX6_isState_9 : decode cX6_isState 9 = .ok (.if_icmp .ge 7, 3) := by decide +kernel
theorem dX6_isState_12 : decode cX6_isState 12 = .ok (.iconst 1, 1) := by decide +kernel
theorem dX6_isState_13 : decode cX6_isState 13 = .ok (.goto 4, 3) := by decide +kernel
theorem dX6_isState_16 : decode cX6_isState 16 = .ok (.iconst 0, 1) := by decide +kernel
theorem dX6_isState_17 : decode cX6_isState 17 = .ok (.ireturn, 1) := by decide +kernel
theorem dX6_cameFrom_0 : decode cX6_cameFrom 0 = .ok (.aload_n 0, 1) := by decide +kernel
theorem dX6_cameFrom_1 : decode cX6_cameFrom 1 = .ok (.iload_n 1, 1) := by decide +kernel
theorem dX6_cameFrom_2 : decode cX6_cameFrom 2 = .ok (.invokevirtual 122, 3) := by decide +kernel
theorem dX6_cameFrom_5 : decode cX6_cameFrom 5 = .ok (.ifCond .eq 15, 3) := by decide +kernel
theorem dX6_cameFrom_8 : decode cX6_cameFrom 8 = .ok (.aload_n 0, 1) := by decide +kernel
theorem dX6_cameFrom_9 : decode cX6_cameFrom 9 = .ok (.getfield 22, 3) := by decide +kernel
theorem dX6_cameFrom_12 : decode cX6_cameFrom 12 = .ok (.iload_n 1, 1) := by decide +kernel
theorem dX6_cameFrom_13 : decode cX6_cameFrom 13 = .ok (.iaload, 1) := by decide +kernel
theorem dX6_cameFrom_14 : decode cX6_cameFrom 14 = .ok (.bipush 10, 2) := by decide +kernel
theorem dX6_cameFrom_16 : decode cX6_cameFrom 16 = .ok (.ishr, 1) := by decide +kernel
theorem dX6_cameFrom_17 : decode cX6_cameFrom 17 = .ok (.goto 4, 3) := by decide +kernel
theorem dX6_cameFrom_20 : decode cX6_cameFrom 20 = .ok (.iconst 0, 1) := by decide +kernel
theorem dX6_cameFrom_21 : decode cX6_cameFrom 21 = .ok (.ireturn, 1) := by decide +kernel
theorem dX6_taken_0 : decode cX6_taken 0 = .ok (.aload_n 0, 1) := by decide +kernel
theorem dX6_taken_1 : decode cX6_taken 1 = .ok (.iload_n 1, 1) := by decide +kernel
theorem dX6_taken_2 : decode cX6_taken 2 = .ok (.invokevirtual 122, 3) := by decide +kernel
theorem dX6_taken_5 : decode cX6_taken 5 = .ok (.ifCond .eq 16, 3) := by decide +kernel
theorem dX6_taken_8 : decode cX6_taken 8 = .ok (.aload_n 0, 1) := by decide +kernel
theorem dX6_taken_9 : decode cX6_taken 9 = .ok (.getfield 22, 3) := by decide +kernel
theorem dX6_taken_12 : decode cX6_taken 12 = .ok (.iload_n 1, 1) := by decide +kernel
theorem dX6_taken_13 : decode cX6_taken 13 = .ok (.iaload, 1) := by decide +kernel
theorem dX6_taken_14 : decode cX6_taken 14 = .ok (.sipush 1023, 3) := by decide +kernel
theorem dX6_taken_17 : decode cX6_taken 17 = .ok (.iand, 1) := by decide +kernel
theorem dX6_taken_18 : decode cX6_taken 18 = .ok (.goto 4, 3) := by decide +kernel
theorem dX6_taken_21 : decode cX6_taken 21 = .ok (.iconst 0, 1) := by decide +kernel
theorem dX6_taken_22 : decode cX6_taken 22 = .ok (.ireturn, 1) := by decide +kernel
theorem dX6_isWanted_0 : decode cX6_isWanted 0 = .ok (.aload_n 0, 1) := by decide +kernel
theorem dX6_isWanted_1 : decode cX6_isWanted 1 = .ok (.iload_n 1, 1) := by decide +kernel
theorem dX6_isWanted_2 : decode cX6_isWanted 2 = .ok (.invokevirtual 122, 3) := by decide +kernel
theorem dX6_isWanted_5 : decode cX6_isWanted 5 = .ok (.ifCond .ne 5, 3) := by decide +kernel
theorem dX6_isWanted_8 : decode cX6_isWanted 8 = .ok (.iconst 0, 1) := by decide +kernel
theorem dX6_isWanted_9 : decode cX6_isWanted 9 = .ok (.ireturn, 1) := by decide +kernel
theorem dX6_isWanted_10 : decode cX6_isWanted 10 = .ok (.aload_n 0, 1) := by decide +kernel
theorem dX6_isWanted_11 : decode cX6_isWanted 11 = .ok (.getfield 18, 3) := by decide +kernel
theorem dX6_isWanted_14 : decode cX6_isWanted 14 = .ok (.iload_n 1, 1) := by decide +kernel
theorem dX6_isWanted_15 : decode cX6_isWanted 15 = .ok (.laload, 1) := by decide +kernel
theorem dX6_isWanted_16 : decode cX6_isWanted 16 = .ok (.lstore_n 2, 1) := by decide +kernel
theorem dX6_isWanted_17 : decode cX6_isWanted 17 = .ok (.aload_n 0, 1) := by decide +kernel
theorem dX6_isWanted_18 : decode cX6_isWanted 18 = .ok (.getfield 40, 3) := by decide +kernel
theorem dX6_isWanted_21 : decode cX6_isWanted 21 = .ok (.iconst 1, 1) := by decide +kernel
theorem dX6_isWanted_22 : decode cX6_isWanted 22 = .ok (.if_icmp .ne 24, 3) := by decide +kernel
theorem dX6_isWanted_25 : decode cX6_isWanted 25 = .ok (.aload_n 0, 1) := by decide +kernel
theorem dX6_isWanted_26 : decode cX6_isWanted 26 = .ok (.getfield 43, 3) := by decide +kernel
theorem dX6_isWanted_29 : decode cX6_isWanted 29 = .ok (.lload_n 2, 1) := by decide +kernel
theorem dX6_isWanted_30 : decode cX6_isWanted 30 = .ok (.iconst (-1), 1) := by decide +kernel
theorem dX6_isWanted_31 : decode cX6_isWanted 31 = .ok (.invokestatic 125, 3) := by decide +kernel
theorem dX6_isWanted_34 : decode cX6_isWanted 34 = .ok (.iconst (-1), 1) := by decide +kernel
theorem dX6_isWanted_35 : decode cX6_isWanted 35 = .ok (.ixor, 1) := by decide +kernel
theorem dX6_isWanted_36 : decode cX6_isWanted 36 = .ok (.iand, 1) := by decide +kernel
theorem dX6_isWanted_37 : decode cX6_isWanted 37 = .ok (.ifCond .ne 7, 3) := by decide +kernel
theorem dX6_isWanted_40 : decode cX6_isWanted 40 = .ok (.iconst 1, 1) := by decide +kernel
theorem dX6_isWanted_41 : decode cX6_isWanted 41 = .ok (.goto 4, 3) := by decide +kernel
theorem dX6_isWanted_44 : decode cX6_isWanted 44 = .ok (.iconst 0, 1) := by decide +kernel
theorem dX6_isWanted_45 : decode cX6_isWanted 45 = .ok (.ireturn, 1) := by decide +kernel
theorem dX6_isWanted_46 : decode cX6_isWanted 46 = .ok (.aload_n 0, 1) := by decide +kernel
theorem dX6_isWanted_47 : decode cX6_isWanted 47 = .ok (.getfield 40, 3) := by decide +kernel
theorem dX6_isWanted_50 : decode cX6_isWanted 50 = .ok (.iconst 2, 1) := by decide +kernel
theorem dX6_isWanted_51 : decode cX6_isWanted 51 = .ok (.if_icmp .ne 33, 3) := by decide +kernel
theorem dX6_isWanted_54 : decode cX6_isWanted 54 = .ok (.lload_n 2, 1) := by decide +kernel
theorem dX6_isWanted_55 : decode cX6_isWanted 55 = .ok (.invokestatic 114, 3) := by decide +kernel
theorem dX6_isWanted_58 : decode cX6_isWanted 58 = .ok (.aload_n 0, 1) := by decide +kernel
theorem dX6_isWanted_59 : decode cX6_isWanted 59 = .ok (.getfield 46, 3) := by decide +kernel
theorem dX6_isWanted_62 : decode cX6_isWanted 62 = .ok (.if_icmp .ne 22, 3) := by decide +kernel
theorem dX6_isWanted_65 : decode cX6_isWanted 65 = .ok (.lload_n 2, 1) := by decide +kernel
theorem dX6_isWanted_66 : decode cX6_isWanted 66 = .ok (.aload_n 0, 1) := by decide +kernel
theorem dX6_isWanted_67 : decode cX6_isWanted 67 = .ok (.getfield 46, 3) := by decide +kernel
theorem dX6_isWanted_70 : decode cX6_isWanted 70 = .ok (.invokestatic 125, 3) := by decide +kernel
theorem dX6_isWanted_73 : decode cX6_isWanted 73 = .ok (.aload_n 0, 1) := by decide +kernel
theorem dX6_isWanted_74 : decode cX6_isWanted 74 = .ok (.getfield 43, 3) := by decide +kernel
theorem dX6_isWanted_77 : decode cX6_isWanted 77 = .ok (.if_icmp .ne 7, 3) := by decide +kernel
theorem dX6_isWanted_80 : decode cX6_isWanted 80 = .ok (.iconst 1, 1) := by decide +kernel
theorem dX6_isWanted_81 : decode cX6_isWanted 81 = .ok (.goto 4, 3) := by decide +kernel
theorem dX6_isWanted_84 : decode cX6_isWanted 84 = .ok (.iconst 0, 1) := by decide +kernel
theorem dX6_isWanted_85 : decode cX6_isWanted 85 = .ok (.ireturn, 1) := by decide +kernel
theorem dX6_onFloor_0 : decode cX6_onFloor 0 = .ok (.iconst 0, 1) := by decide +kernel
theorem dX6_onFloor_1 : decode cX6_onFloor 1 = .ok (.istore_n 3, 1) := by decide +kernel
theorem dX6_onFloor_2 : decode cX6_onFloor 2 = .ok (.iconst 0, 1) := by decide +kernel
theorem dX6_onFloor_3 : decode cX6_onFloor 3 = .ok (.istore 4, 2) := by decide +kernel
theorem dX6_onFloor_5 : decode cX6_onFloor 5 = .ok (.iload 4, 2) := by decide +kernel
theorem dX6_onFloor_7 : decode cX6_onFloor 7 = .ok (.bipush 10, 2) := by decide +kernel
theorem dX6_onFloor_9 : decode cX6_onFloor 9 = .ok (.if_icmp .ge 30, 3) := by decide +kernel
theorem dX6_onFloor_12 : decode cX6_onFloor 12 = .ok (.iload_n 3, 1) := by decide +kernel
theorem dX6_onFloor_13 : decode cX6_onFloor 13 = .ok (.lload_n 0, 1) := by decide +kernel
theorem dX6_onFloor_14 : decode cX6_onFloor 14 = .ok (.iload 4, 2) := by decide +kernel
theorem dX6_onFloor_16 : decode cX6_onFloor 16 = .ok (.invokestatic 110, 3) := by decide +kernel
theorem dX6_onFloor_19 : decode cX6_onFloor 19 = .ok (.iload_n 2, 1) := by decide +kernel
theorem dX6_onFloor_20 : decode cX6_onFloor 20 = .ok (.if_icmp .ne 10, 3) := by decide +kernel
theorem dX6_onFloor_23 : decode cX6_onFloor 23 = .ok (.iconst 1, 1) := by decide +kernel
theorem dX6_onFloor_24 : decode cX6_onFloor 24 = .ok (.iload 4, 2) := by decide +kernel
theorem dX6_onFloor_26 : decode cX6_onFloor 26 = .ok (.ishl, 1) := by decide +kernel
theorem dX6_onFloor_27 : decode cX6_onFloor 27 = .ok (.goto 4, 3) := by decide +kernel
theorem dX6_onFloor_30 : decode cX6_onFloor 30 = .ok (.iconst 0, 1) := by decide +kernel
theorem dX6_onFloor_31 : decode cX6_onFloor 31 = .ok (.ior, 1) := by decide +kernel
theorem dX6_onFloor_32 : decode cX6_onFloor 32 = .ok (.istore_n 3, 1) := by decide +kernel
theorem dX6_onFloor_33 : decode cX6_onFloor 33 = .ok (.iinc 4 1, 3) := by decide +kernel
theorem dX6_onFloor_36 : decode cX6_onFloor 36 = .ok (.goto (-31), 3) := by decide +kernel
theorem dX6_onFloor_39 : decode cX6_onFloor 39 = .ok (.iload_n 3, 1) := by decide +kernel
theorem dX6_onFloor_40 : decode cX6_onFloor 40 = .ok (.ireturn, 1) := by decide +kernel
theorem dX6_everHome_0 : decode cX6_everHome 0 = .ok (.iconst 0, 1) := by decide +kernel
theorem dX6_everHome_1 : decode cX6_everHome 1 = .ok (.istore_n 1, 1) := by decide +kernel
theorem dX6_everHome_2 : decode cX6_everHome 2 = .ok (.iconst 0, 1) := by decide +kernel
theorem dX6_everHome_3 : decode cX6_everHome 3 = .ok (.istore_n 2, 1) := by decide +kernel
theorem dX6_everHome_4 : decode cX6_everHome 4 = .ok (.iload_n 2, 1) := by decide +kernel
theorem dX6_everHome_5 : decode cX6_everHome 5 = .ok (.aload_n 0, 1) := by decide +kernel
theorem dX6_everHome_6 : decode cX6_everHome 6 = .ok (.getfield 29, 3) := by decide +kernel
theorem dX6_everHome_9 : decode cX6_everHome 9 = .ok (.if_icmp .ge 22, 3) := by decide +kernel
theorem dX6_everHome_12 : decode cX6_everHome 12 = .ok (.iload_n 1, 1) := by decide +kernel
theorem dX6_everHome_13 : decode cX6_everHome 13 = .ok (.aload_n 0, 1) := by decide +kernel
theorem dX6_everHome_14 : decode cX6_everHome 14 = .ok (.getfield 18, 3) := by decide +kernel
theorem dX6_everHome_17 : decode cX6_everHome 17 = .ok (.iload_n 2, 1) := by decide +kernel
theorem dX6_everHome_18 : decode cX6_everHome 18 = .ok (.laload, 1) := by decide +kernel
theorem dX6_everHome_19 : decode cX6_everHome 19 = .ok (.iconst (-1), 1) := by decide +kernel
theorem dX6_everHome_20 : decode cX6_everHome 20 = .ok (.invokestatic 125, 3) := by decide +kernel
theorem dX6_everHome_23 : decode cX6_everHome 23 = .ok (.ior, 1) := by decide +kernel
theorem dX6_everHome_24 : decode cX6_everHome 24 = .ok (.istore_n 1, 1) := by decide +kernel
theorem dX6_everHome_25 : decode cX6_everHome 25 = .ok (.iinc 2 1, 3) := by decide +kernel
theorem dX6_everHome_28 : decode cX6_everHome 28 = .ok (.goto (-24), 3) := by decide +kernel
theorem dX6_everHome_31 : decode cX6_everHome 31 = .ok (.iload_n 1, 1) := by decide +kernel
theorem dX6_everHome_32 : decode cX6_everHome 32 = .ok (.ireturn, 1) := by decide +kernel
theorem dX6_everStopped_0 : decode cX6_everStopped 0 = .ok (.iconst 0, 1) := by decide +kernel
theorem dX6_everStopped_1 : decode cX6_everStopped 1 = .ok (.istore_n 1, 1) := by decide +kernel
theorem dX6_everStopped_2 : decode cX6_everStopped 2 = .ok (.iconst 0, 1) := by decide +kernel
theorem dX6_everStopped_3 : decode cX6_everStopped 3 = .ok (.istore_n 2, 1) := by decide +kernel
theorem dX6_everStopped_4 : decode cX6_everStopped 4 = .ok (.iload_n 2, 1) := by decide +kernel
theorem dX6_everStopped_5 : decode cX6_everStopped 5 = .ok (.aload_n 0, 1) := by decide +kernel
theorem dX6_everStopped_6 : decode cX6_everStopped 6 = .ok (.getfield 29, 3) := by decide +kernel
theorem dX6_everStopped_9 : decode cX6_everStopped 9 = .ok (.if_icmp .ge 23, 3) := by decide +kernel
theorem dX6_everStopped_12 : decode cX6_everStopped 12 = .ok (.iload_n 1, 1) := by decide +kernel
theorem dX6_everStopped_13 : decode cX6_everStopped 13 = .ok (.iconst 1, 1) := by decide +kernel
theorem dX6_everStopped_14 : decode cX6_everStopped 14 = .ok (.aload_n 0, 1) := by decide +kernel
theorem dX6_everStopped_15 : decode cX6_everStopped 15 = .ok (.getfield 18, 3) := by decide +kernel
theorem dX6_everStopped_18 : decode cX6_everStopped 18 = .ok (.iload_n 2, 1) := by decide +kernel
theorem dX6_everStopped_19 : decode cX6_everStopped 19 = .ok (.laload, 1) := by decide +kernel
theorem dX6_everStopped_20 : decode cX6_everStopped 20 = .ok (.invokestatic 114, 3) := by decide +kernel
theorem dX6_everStopped_23 : decode cX6_everStopped 23 = .ok (.ishl, 1) := by decide +kernel
theorem dX6_everStopped_24 : decode cX6_everStopped 24 = .ok (.ior, 1) := by decide +kernel
theorem dX6_everStopped_25 : decode cX6_everStopped 25 = .ok (.istore_n 1, 1) := by decide +kernel
theorem dX6_everStopped_26 : decode cX6_everStopped 26 = .ok (.iinc 2 1, 3) := by decide +kernel
theorem dX6_everStopped_29 : decode cX6_everStopped 29 = .ok (.goto (-25), 3) := by decide +kernel
theorem dX6_everStopped_32 : decode cX6_everStopped 32 = .ok (.iload_n 1, 1) := by decide +kernel
theorem dX6_everStopped_33 : decode cX6_everStopped 33 = .ok (.ireturn, 1) := by decide +kernel
