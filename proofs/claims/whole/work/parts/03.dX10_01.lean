theorem dX10_set_57 : decode cX10_set 57 = .ok (.ifCond .eq 7, 3) := by decide +kernel
theorem dX10_set_60 : decode cX10_set 60 = .ok (.iconst 1, 1) := by decide +kernel
theorem dX10_set_61 : decode cX10_set 61 = .ok (.goto 4, 3) := by decide +kernel
theorem dX10_set_64 : decode cX10_set 64 = .ok (.iconst 0, 1) := by decide +kernel
theorem dX10_set_65 : decode cX10_set 65 = .ok (.istore 4, 2) := by decide +kernel
theorem dX10_set_67 : decode cX10_set 67 = .ok (.aload_n 0, 1) := by decide +kernel
theorem dX10_set_68 : decode cX10_set 68 = .ok (.iload_n 2, 1) := by decide +kernel
theorem dX10_set_69 : decode cX10_set 69 = .ok (.invokevirtual 226, 3) := by decide +kernel
theorem dX10_set_72 : decode cX10_set 72 = .ok (.ifCond .eq 8, 3) := by decide +kernel
theorem dX10_set_75 : decode cX10_set 75 = .ok (.iload 4, 2) := by decide +kernel
theorem dX10_set_77 : decode cX10_set 77 = .ok (.ifCond .ne 5, 3) := by decide +kernel
theorem dX10_set_80 : decode cX10_set 80 = .ok (.iconst 0, 1) := by decide +kernel
theorem dX10_set_81 : decode cX10_set 81 = .ok (.ireturn, 1) := by decide +kernel
theorem dX10_set_82 : decode cX10_set 82 = .ok (.iload_n 1, 1) := by decide +kernel
theorem dX10_set_83 : decode cX10_set 83 = .ok (.ifCond .ne 13, 3) := by decide +kernel
theorem dX10_set_86 : decode cX10_set 86 = .ok (.aload_n 0, 1) := by decide +kernel
theorem dX10_set_87 : decode cX10_set 87 = .ok (.getfield 135, 3) := by decide +kernel
theorem dX10_set_90 : decode cX10_set 90 = .ok (.iload_n 2, 1) := by decide +kernel
theorem dX10_set_91 : decode cX10_set 91 = .ok (.iload_n 3, 1) := by decide +kernel
theorem dX10_set_92 : decode cX10_set 92 = .ok (.iastore, 1) := by decide +kernel
theorem dX10_set_93 : decode cX10_set 93 = .ok (.goto 28, 3) := by decide +kernel
theorem dX10_set_96 : decode cX10_set 96 = .ok (.iload_n 1, 1) := by decide +kernel
theorem dX10_set_97 : decode cX10_set 97 = .ok (.iconst 1, 1) := by decide +kernel
theorem dX10_set_98 : decode cX10_set 98 = .ok (.if_icmp .ne 16, 3) := by decide +kernel
theorem dX10_set_101 : decode cX10_set 101 = .ok (.aload_n 0, 1) := by decide +kernel
theorem dX10_set_102 : decode cX10_set 102 = .ok (.getfield 79, 3) := by decide +kernel
theorem dX10_set_105 : decode cX10_set 105 = .ok (.bipush 10, 2) := by decide +kernel
theorem dX10_set_107 : decode cX10_set 107 = .ok (.iload_n 2, 1) := by decide +kernel
theorem dX10_set_108 : decode cX10_set 108 = .ok (.iadd, 1) := by decide +kernel
theorem dX10_set_109 : decode cX10_set 109 = .ok (.iload_n 3, 1) := by decide +kernel
theorem dX10_set_110 : decode cX10_set 110 = .ok (.iastore, 1) := by decide +kernel
theorem dX10_set_111 : decode cX10_set 111 = .ok (.goto 10, 3) := by decide +kernel
theorem dX10_set_114 : decode cX10_set 114 = .ok (.aload_n 0, 1) := by decide +kernel
theorem dX10_set_115 : decode cX10_set 115 = .ok (.getfield 138, 3) := by decide +kernel
theorem dX10_set_118 : decode cX10_set 118 = .ok (.iload_n 2, 1) := by decide +kernel
theorem dX10_set_119 : decode cX10_set 119 = .ok (.iload_n 3, 1) := by decide +kernel
theorem dX10_set_120 : decode cX10_set 120 = .ok (.iastore, 1) := by decide +kernel
theorem dX10_set_121 : decode cX10_set 121 = .ok (.iconst 1, 1) := by decide +kernel
theorem dX10_set_122 : decode cX10_set 122 = .ok (.ireturn, 1) := by decide +kernel
theorem dX10_sheet_0 : decode cX10_sheet 0 = .ok (.aload_n 0, 1) := by decide +kernel
theorem dX10_sheet_1 : decode cX10_sheet 1 = .ok (.iconst 0, 1) := by decide +kernel
theorem dX10_sheet_2 : decode cX10_sheet 2 = .ok (.putfield 3, 3) := by decide +kernel
theorem dX10_sheet_5 : decode cX10_sheet 5 = .ok (.iload_n 1, 1) := by decide +kernel
theorem dX10_sheet_6 : decode cX10_sheet 6 = .ok (.i2l, 1) := by decide +kernel
theorem dX10_sheet_7 : decode cX10_sheet 7 = .ok (.lconst 0, 1) := by decide +kernel
theorem dX10_sheet_8 : decode cX10_sheet 8 = .ok (.ldc2_w 236, 3) := by decide +kernel
theorem dX10_sheet_11 : decode cX10_sheet 11 = .ok (.invokestatic 25, 3) := by decide +kernel
theorem dX10_sheet_14 : decode cX10_sheet 14 = .ok (.ifCond .eq 9, 3) := by decide +kernel
theorem dX10_sheet_17 : decode cX10_sheet 17 = .ok (.iload_n 2, 1) := by decide +kernel
theorem dX10_sheet_18 : decode cX10_sheet 18 = .ok (.bipush 10, 2) := by decide +kernel
theorem dX10_sheet_20 : decode cX10_sheet 20 = .ok (.if_icmp .le 5, 3) := by decide +kernel
theorem dX10_sheet_23 : decode cX10_sheet 23 = .ok (.iconst (-1), 1) := by decide +kernel
theorem dX10_sheet_24 : decode cX10_sheet 24 = .ok (.ireturn, 1) := by decide +kernel
theorem dX10_sheet_25 : decode cX10_sheet 25 = .ok (.iload_n 1, 1) := by decide +kernel
theorem dX10_sheet_26 : decode cX10_sheet 26 = .ok (.iconst 3, 1) := by decide +kernel
theorem dX10_sheet_27 : decode cX10_sheet 27 = .ok (.if_icmp .eq 10, 3) := by decide +kernel
theorem dX10_sheet_30 : decode cX10_sheet 30 = .ok (.iload_n 2, 1) := by decide +kernel
theorem dX10_sheet_31 : decode cX10_sheet 31 = .ok (.ifCond .ge 6, 3) := by decide +kernel
theorem dX10_sheet_34 : decode cX10_sheet 34 = .ok (.bipush (-2), 2) := by decide +kernel
theorem dX10_sheet_36 : decode cX10_sheet 36 = .ok (.ireturn, 1) := by decide +kernel
theorem dX10_sheet_37 : decode cX10_sheet 37 = .ok (.iconst 0, 1) := by decide +kernel
theorem dX10_sheet_38 : decode cX10_sheet 38 = .ok (.istore 5, 2) := by decide +kernel
theorem dX10_sheet_40 : decode cX10_sheet 40 = .ok (.iload_n 3, 1) := by decide +kernel
theorem dX10_sheet_41 : decode cX10_sheet 41 = .ok (.istore 6, 2) := by decide +kernel
theorem dX10_sheet_43 : decode cX10_sheet 43 = .ok (.iconst 0, 1) := by decide +kernel
theorem dX10_sheet_44 : decode cX10_sheet 44 = .ok (.istore 7, 2) := by decide +kernel
theorem dX10_sheet_46 : decode cX10_sheet 46 = .ok (.iload 7, 2) := by decide +kernel
theorem dX10_sheet_48 : decode cX10_sheet 48 = .ok (.aload_n 0, 1) := by decide +kernel
theorem dX10_sheet_49 : decode cX10_sheet 49 = .ok (.getfield 29, 3) := by decide +kernel
theorem dX10_sheet_52 : decode cX10_sheet 52 = .ok (.if_icmp .ge 99, 3) := by decide +kernel
theorem dX10_sheet_55 : decode cX10_sheet 55 = .ok (.iload_n 1, 1) := by decide +kernel
theorem dX10_sheet_56 : decode cX10_sheet 56 = .ok (.ifCond .ne 9, 3) := by decide +kernel
theorem dX10_sheet_59 : decode cX10_sheet 59 = .ok (.iload 6, 2) := by decide +kernel
theorem dX10_sheet_61 : decode cX10_sheet 61 = .ok (.i2b, 1) := by decide +kernel
theorem dX10_sheet_62 : decode cX10_sheet 62 = .ok (.goto 16, 3) := by decide +kernel
theorem dX10_sheet_65 : decode cX10_sheet 65 = .ok (.iload_n 1, 1) := by decide +kernel
theorem dX10_sheet_66 : decode cX10_sheet 66 = .ok (.iconst 1, 1) := by decide +kernel
theorem dX10_sheet_67 : decode cX10_sheet 67 = .ok (.if_icmp .ne 9, 3) := by decide +kernel
theorem dX10_sheet_70 : decode cX10_sheet 70 = .ok (.iload 6, 2) := by decide +kernel
theorem dX10_sheet_72 : decode cX10_sheet 72 = .ok (.i2s, 1) := by decide +kernel
theorem dX10_sheet_73 : decode cX10_sheet 73 = .ok (.goto 5, 3) := by decide +kernel
theorem dX10_sheet_76 : decode cX10_sheet 76 = .ok (.iload 6, 2) := by decide +kernel
theorem dX10_sheet_78 : decode cX10_sheet 78 = .ok (.istore 8, 2) := by decide +kernel
theorem dX10_sheet_80 : decode cX10_sheet 80 = .ok (.iload_n 1, 1) := by decide +kernel
theorem dX10_sheet_81 : decode cX10_sheet 81 = .ok (.iconst 3, 1) := by decide +kernel
theorem dX10_sheet_82 : decode cX10_sheet 82 = .ok (.if_icmp .eq 22, 3) := by decide +kernel
theorem dX10_sheet_85 : decode cX10_sheet 85 = .ok (.iload 7, 2) := by decide +kernel
theorem dX10_sheet_87 : decode cX10_sheet 87 = .ok (.iload_n 2, 1) := by decide +kernel
theorem dX10_sheet_88 : decode cX10_sheet 88 = .ok (.if_icmp .ge 16, 3) := by decide +kernel
theorem dX10_sheet_91 : decode cX10_sheet 91 = .ok (.aload_n 0, 1) := by decide +kernel
theorem dX10_sheet_92 : decode cX10_sheet 92 = .ok (.iload 8, 2) := by decide +kernel
theorem dX10_sheet_94 : decode cX10_sheet 94 = .ok (.invokevirtual 95, 3) := by decide +kernel
theorem dX10_sheet_97 : decode cX10_sheet 97 = .ok (.ifCond .eq 7, 3) := by decide +kernel
theorem dX10_sheet_100 : decode cX10_sheet 100 = .ok (.iconst 1, 1) := by decide +kernel
theorem dX10_sheet_101 : decode cX10_sheet 101 = .ok (.goto 4, 3) := by decide +kernel
theorem dX10_sheet_104 : decode cX10_sheet 104 = .ok (.iconst 0, 1) := by decide +kernel
theorem dX10_sheet_105 : decode cX10_sheet 105 = .ok (.istore 9, 2) := by decide +kernel
theorem dX10_sheet_107 : decode cX10_sheet 107 = .ok (.aload_n 0, 1) := by decide +kernel
theorem dX10_sheet_108 : decode cX10_sheet 108 = .ok (.getfield 79, 3) := by decide +kernel
theorem dX10_sheet_111 : decode cX10_sheet 111 = .ok (.bipush 10, 2) := by decide +kernel
theorem dX10_sheet_113 : decode cX10_sheet 113 = .ok (.iload 7, 2) := by decide +kernel
theorem dX10_sheet_115 : decode cX10_sheet 115 = .ok (.iadd, 1) := by decide +kernel
theorem dX10_sheet_116 : decode cX10_sheet 116 = .ok (.iload 9, 2) := by decide +kernel
theorem dX10_sheet_118 : decode cX10_sheet 118 = .ok (.ifCond .eq 8, 3) := by decide +kernel
theorem dX10_sheet_121 : decode cX10_sheet 121 = .ok (.iload 8, 2) := by decide +kernel
theorem dX10_sheet_123 : decode cX10_sheet 123 = .ok (.goto 4, 3) := by decide +kernel
theorem dX10_sheet_126 : decode cX10_sheet 126 = .ok (.iconst (-1), 1) := by decide +kernel
theorem dX10_sheet_127 : decode cX10_sheet 127 = .ok (.iastore, 1) := by decide +kernel
theorem dX10_sheet_128 : decode cX10_sheet 128 = .ok (.iload 5, 2) := by decide +kernel
theorem dX10_sheet_130 : decode cX10_sheet 130 = .ok (.iload 9, 2) := by decide +kernel
theorem dX10_sheet_132 : decode cX10_sheet 132 = .ok (.invokestatic 54, 3) := by decide +kernel
theorem dX10_sheet_135 : decode cX10_sheet 135 = .ok (.iadd, 1) := by decide +kernel
theorem dX10_sheet_136 : decode cX10_sheet 136 = .ok (.istore 5, 2) := by decide +kernel
theorem dX10_sheet_138 : decode cX10_sheet 138 = .ok (.iload 6, 2) := by decide +kernel
theorem dX10_sheet_140 : decode cX10_sheet 140 = .ok (.iload 4, 2) := by decide +kernel
theorem dX10_sheet_142 : decode cX10_sheet 142 = .ok (.iadd, 1) := by decide +kernel
theorem dX10_sheet_143 : decode cX10_sheet 143 = .ok (.istore 6, 2) := by decide +kernel
theorem dX10_sheet_145 : decode cX10_sheet 145 = .ok (.iinc 7 1, 3) := by decide +kernel
theorem dX10_sheet_148 : decode cX10_sheet 148 = .ok (.goto (-102), 3) := by decide +kernel
theorem dX10_sheet_151 : decode cX10_sheet 151 = .ok (.iload_n 1, 1) := by decide +kernel
theorem dX10_sheet_152 : decode cX10_sheet 152 = .ok (.iconst 3, 1) := by decide +kernel
theorem dX10_sheet_153 : decode cX10_sheet 153 = .ok (.if_icmp .ne 8, 3) := by decide +kernel
theorem dX10_sheet_156 : decode cX10_sheet 156 = .ok (.bipush (-3), 2) := by decide +kernel
theorem dX10_sheet_158 : decode cX10_sheet 158 = .ok (.goto 5, 3) := by decide +kernel
theorem dX10_sheet_161 : decode cX10_sheet 161 = .ok (.iload 5, 2) := by decide +kernel
theorem dX10_sheet_163 : decode cX10_sheet 163 = .ok (.ireturn, 1) := by decide +kernel
theorem dX10_dog_0 : decode cX10_dog 0 = .ok (.aload_n 0, 1) := by decide +kernel
theorem dX10_dog_1 : decode cX10_dog 1 = .ok (.iconst 0, 1) := by decide +kernel
theorem dX10_dog_2 : decode cX10_dog 2 = .ok (.putfield 3, 3) := by decide +kernel
theorem dX10_dog_5 : decode cX10_dog 5 = .ok (.iload_n 1, 1) := by decide +kernel
theorem dX10_dog_6 : decode cX10_dog 6 = .ok (.iconst (-1), 1) := by decide +kernel
theorem dX10_dog_7 : decode cX10_dog 7 = .ok (.if_icmp .eq 13, 3) := by decide +kernel
theorem dX10_dog_10 : decode cX10_dog 10 = .ok (.aload_n 0, 1) := by decide +kernel
theorem dX10_dog_11 : decode cX10_dog 11 = .ok (.iload_n 1, 1) := by decide +kernel
theorem dX10_dog_12 : decode cX10_dog 12 = .ok (.invokevirtual 95, 3) := by decide +kernel
theorem dX10_dog_15 : decode cX10_dog 15 = .ok (.ifCond .ne 5, 3) := by decide +kernel
theorem dX10_dog_18 : decode cX10_dog 18 = .ok (.iconst 0, 1) := by decide +kernel
theorem dX10_dog_19 : decode cX10_dog 19 = .ok (.ireturn, 1) := by decide +kernel
theorem dX10_dog_20 : decode cX10_dog 20 = .ok (.aload_n 0, 1) := by decide +kernel
theorem dX10_dog_21 : decode cX10_dog 21 = .ok (.iload_n 1, 1) := by decide +kernel
theorem dX10_dog_22 : decode cX10_dog 22 = .ok (.putfield 76, 3) := by decide +kernel
theorem dX10_dog_25 : decode cX10_dog 25 = .ok (.iconst 1, 1) := by decide +kernel
theorem dX10_dog_26 : decode cX10_dog 26 = .ok (.ireturn, 1) := by decide +kernel
theorem dX10_draws_0 : decode cX10_draws 0 = .ok (.aload_n 0, 1) := by decide +kernel
theorem dX10_draws_1 : decode cX10_draws 1 = .ok (.aload_n 0, 1) := by decide +kernel
theorem dX10_draws_2 : decode cX10_draws 2 = .ok (.getfield 238, 3) := by decide +kernel
theorem dX10_draws_5 : decode cX10_draws 5 = .ok (.ldc 241, 2) := by decide +kernel
theorem dX10_draws_7 : decode cX10_draws 7 = .ok (.imul, 1) := by decide +kernel
theorem dX10_draws_8 : decode cX10_draws 8 = .ok (.sipush 12345, 3) := by decide +kernel
theorem dX10_draws_11 : decode cX10_draws 11 = .ok (.iadd, 1) := by decide +kernel
theorem dX10_draws_12 : decode cX10_draws 12 = .ok (.putfield 238, 3) := by decide +kernel
theorem dX10_draws_15 : decode cX10_draws 15 = .ok (.aload_n 0, 1) := by decide +kernel
theorem dX10_draws_16 : decode cX10_draws 16 = .ok (.getfield 238, 3) := by decide +kernel
theorem dX10_draws_19 : decode cX10_draws 19 = .ok (.bipush 16, 2) := by decide +kernel
theorem dX10_draws_21 : decode cX10_draws 21 = .ok (.iushr, 1) := by decide +kernel
theorem dX10_draws_22 : decode cX10_draws 22 = .ok (.iload_n 1, 1) := by decide +kernel
theorem dX10_draws_23 : decode cX10_draws 23 = .ok (.irem, 1) := by decide +kernel
theorem dX10_draws_24 : decode cX10_draws 24 = .ok (.ireturn, 1) := by decide +kernel
theorem dX10_crowd_0 : decode cX10_crowd 0 = .ok (.aload_n 0, 1) := by decide +kernel
theorem dX10_crowd_1 : decode cX10_crowd 1 = .ok (.iconst 0, 1) := by decide +kernel
theorem dX10_crowd_2 : decode cX10_crowd 2 = .ok (.putfield 3, 3) := by decide +kernel
theorem dX10_crowd_5 : decode cX10_crowd 5 = .ok (.iload_n 2, 1) := by decide +kernel
theorem dX10_crowd_6 : decode cX10_crowd 6 = .ok (.i2l, 1) := by decide +kernel
theorem dX10_crowd_7 : decode cX10_crowd 7 = .ok (.lconst 0, 1) := by decide +kernel
theorem dX10_crowd_8 : decode cX10_crowd 8 = .ok (.ldc2_w 234, 3) := by decide +kernel
theorem dX10_crowd_11 : decode cX10_crowd 11 = .ok (.invokestatic 25, 3) := by decide +kernel
theorem dX10_crowd_14 : decode cX10_crowd 14 = .ok (.ifCond .ne 5, 3) := by decide +kernel
theorem dX10_crowd_17 : decode cX10_crowd 17 = .ok (.iconst (-1), 1) := by decide +kernel
theorem dX10_crowd_18 : decode cX10_crowd 18 = .ok (.ireturn, 1) := by decide +kernel
theorem dX10_crowd_19 : decode cX10_crowd 19 = .ok (.aload_n 0, 1) := by decide +kernel
theorem dX10_crowd_20 : decode cX10_crowd 20 = .ok (.iload_n 1, 1) := by decide +kernel
theorem dX10_crowd_21 : decode cX10_crowd 21 = .ok (.putfield 238, 3) := by decide +kernel
theorem dX10_crowd_24 : decode cX10_crowd 24 = .ok (.iconst 0, 1) := by decide +kernel
theorem dX10_crowd_25 : decode cX10_crowd 25 = .ok (.istore_n 3, 1) := by decide +kernel
theorem dX10_crowd_26 : decode cX10_crowd 26 = .ok (.aload_n 0, 1) := by decide +kernel
theorem dX10_crowd_27 : decode cX10_crowd 27 = .ok (.getfield 29, 3) := by decide +kernel
theorem dX10_crowd_30 : decode cX10_crowd 30 = .ok (.iload_n 2, 1) := by decide +kernel
theorem dX10_crowd_31 : decode cX10_crowd 31 = .ok (.if_icmp .ge 59, 3) := by decide +kernel
theorem dX10_crowd_34 : decode cX10_crowd 34 = .ok (.aload_n 0, 1) := by decide +kernel
theorem dX10_crowd_35 : decode cX10_crowd 35 = .ok (.aload_n 0, 1) := by decide +kernel
theorem dX10_crowd_36 : decode cX10_crowd 36 = .ok (.getfield 22, 3) := by decide +kernel
theorem dX10_crowd_39 : decode cX10_crowd 39 = .ok (.invokevirtual 242, 3) := by decide +kernel
theorem dX10_crowd_42 : decode cX10_crowd 42 = .ok (.istore 4, 2) := by decide +kernel
theorem dX10_crowd_44 : decode cX10_crowd 44 = .ok (.aload_n 0, 1) := by decide +kernel
theorem dX10_crowd_45 : decode cX10_crowd 45 = .ok (.aload_n 0, 1) := by decide +kernel
theorem dX10_crowd_46 : decode cX10_crowd 46 = .ok (.getfield 22, 3) := by decide +kernel
theorem dX10_crowd_49 : decode cX10_crowd 49 = .ok (.invokevirtual 242, 3) := by decide +kernel
theorem dX10_crowd_52 : decode cX10_crowd 52 = .ok (.istore 5, 2) := by decide +kernel
theorem dX10_crowd_54 : decode cX10_crowd 54 = .ok (.aload_n 0, 1) := by decide +kernel
theorem dX10_crowd_55 : decode cX10_crowd 55 = .ok (.aload_n 0, 1) := by decide +kernel
theorem dX10_crowd_56 : decode cX10_crowd 56 = .ok (.getfield 29, 3) := by decide +kernel
theorem dX10_crowd_59 : decode cX10_crowd 59 = .ok (.iload 4, 2) := by decide +kernel
theorem dX10_crowd_61 : decode cX10_crowd 61 = .ok (.iload 5, 2) := by decide +kernel
theorem dX10_crowd_63 : decode cX10_crowd 63 = .ok (.aload_n 0, 1) := by decide +kernel
theorem dX10_crowd_64 : decode cX10_crowd 64 = .ok (.aload_n 0, 1) := by decide +kernel
theorem dX10_crowd_65 : decode cX10_crowd 65 = .ok (.getfield 22, 3) := by decide +kernel
theorem dX10_crowd_68 : decode cX10_crowd 68 = .ok (.invokevirtual 242, 3) := by decide +kernel
theorem dX10_crowd_71 : decode cX10_crowd 71 = .ok (.invokevirtual 131, 3) := by decide +kernel
theorem dX10_crowd_74 : decode cX10_crowd 74 = .ok (.aload_n 0, 1) := by decide +kernel
theorem dX10_crowd_75 : decode cX10_crowd 75 = .ok (.dup, 1) := by decide +kernel
theorem dX10_crowd_76 : decode cX10_crowd 76 = .ok (.getfield 29, 3) := by decide +kernel
theorem dX10_crowd_79 : decode cX10_crowd 79 = .ok (.iconst 1, 1) := by decide +kernel
theorem dX10_crowd_80 : decode cX10_crowd 80 = .ok (.iadd, 1) := by decide +kernel
theorem dX10_crowd_81 : decode cX10_crowd 81 = .ok (.putfield 29, 3) := by decide +kernel
theorem dX10_crowd_84 : decode cX10_crowd 84 = .ok (.iinc 3 1, 3) := by decide +kernel
theorem dX10_crowd_87 : decode cX10_crowd 87 = .ok (.goto (-61), 3) := by decide +kernel
theorem dX10_crowd_90 : decode cX10_crowd 90 = .ok (.iload_n 3, 1) := by decide +kernel
theorem dX10_crowd_91 : decode cX10_crowd 91 = .ok (.ifCond .le 18, 3) := by decide +kernel
theorem dX10_crowd_94 : decode cX10_crowd 94 = .ok (.aload_n 0, 1) := by decide +kernel
theorem dX10_crowd_95 : decode cX10_crowd 95 = .ok (.iconst 0, 1) := by decide +kernel
theorem dX10_crowd_96 : decode cX10_crowd 96 = .ok (.putfield 82, 3) := by decide +kernel
theorem dX10_crowd_99 : decode cX10_crowd 99 = .ok (.aload_n 0, 1) := by decide +kernel
theorem dX10_crowd_100 : decode cX10_crowd 100 = .ok (.dup, 1) := by decide +kernel
theorem dX10_crowd_101 : decode cX10_crowd 101 = .ok (.getfield 88, 3) := by decide +kernel
theorem dX10_crowd_104 : decode cX10_crowd 104 = .ok (.iconst 1, 1) := by decide +kernel
theorem dX10_crowd_105 : decode cX10_crowd 105 = .ok (.iadd, 1) := by decide +kernel
theorem dX10_crowd_106 : decode cX10_crowd 106 = .ok (.putfield 88, 3) := by decide +kernel
theorem dX10_crowd_109 : decode cX10_crowd 109 = .ok (.iload_n 3, 1) := by decide +kernel
theorem dX10_crowd_110 : decode cX10_crowd 110 = .ok (.ireturn, 1) := by decide +kernel
theorem dX10_putsBy_0 : decode cX10_putsBy 0 = .ok (.iconst 0, 1) := by decide +kernel
theorem dX10_putsBy_1 : decode cX10_putsBy 1 = .ok (.istore_n 1, 1) := by decide +kernel
theorem dX10_putsBy_2 : decode cX10_putsBy 2 = .ok (.iload_n 1, 1) := by decide +kernel
theorem dX10_putsBy_3 : decode cX10_putsBy 3 = .ok (.bipush 33, 2) := by decide +kernel
theorem dX10_putsBy_5 : decode cX10_putsBy 5 = .ok (.if_icmp .ge 29, 3) := by decide +kernel
theorem dX10_putsBy_8 : decode cX10_putsBy 8 = .ok (.aload_n 0, 1) := by decide +kernel
theorem dX10_putsBy_9 : decode cX10_putsBy 9 = .ok (.getfield 245, 3) := by decide +kernel
theorem dX10_putsBy_12 : decode cX10_putsBy 12 = .ok (.bipush 33, 2) := by decide +kernel
theorem dX10_putsBy_14 : decode cX10_putsBy 14 = .ok (.aload_n 0, 1) := by decide +kernel
theorem dX10_putsBy_15 : decode cX10_putsBy 15 = .ok (.getfield 82, 3) := by decide +kernel
theorem dX10_putsBy_18 : decode cX10_putsBy 18 = .ok (.imul, 1) := by decide +kernel
theorem dX10_putsBy_19 : decode cX10_putsBy 19 = .ok (.iload_n 1, 1) := by decide +kernel
theorem dX10_putsBy_20 : decode cX10_putsBy 20 = .ok (.iadd, 1) := by decide +kernel
theorem dX10_putsBy_21 : decode cX10_putsBy 21 = .ok (.aload_n 0, 1) := by decide +kernel
theorem dX10_putsBy_22 : decode cX10_putsBy 22 = .ok (.getfield 79, 3) := by decide +kernel
theorem dX10_putsBy_25 : decode cX10_putsBy 25 = .ok (.iload_n 1, 1) := by decide +kernel
theorem dX10_putsBy_26 : decode cX10_putsBy 26 = .ok (.iaload, 1) := by decide +kernel
theorem dX10_putsBy_27 : decode cX10_putsBy 27 = .ok (.iastore, 1) := by decide +kernel
theorem dX10_putsBy_28 : decode cX10_putsBy 28 = .ok (.iinc 1 1, 3) := by decide +kernel
theorem dX10_putsBy_31 : decode cX10_putsBy 31 = .ok (.goto (-29), 3) := by decide +kernel
theorem dX10_putsBy_34 : decode cX10_putsBy 34 = .ok (.return_, 1) := by decide +kernel
theorem dX10_adds_0 : decode cX10_adds 0 = .ok (.aload_n 0, 1) := by decide +kernel
theorem dX10_adds_1 : decode cX10_adds 1 = .ok (.dup, 1) := by decide +kernel
theorem dX10_adds_2 : decode cX10_adds 2 = .ok (.getfield 82, 3) := by decide +kernel
theorem dX10_adds_5 : decode cX10_adds 5 = .ok (.iconst 1, 1) := by decide +kernel
theorem dX10_adds_6 : decode cX10_adds 6 = .ok (.iadd, 1) := by decide +kernel
theorem dX10_adds_7 : decode cX10_adds 7 = .ok (.putfield 82, 3) := by decide +kernel
theorem dX10_adds_10 : decode cX10_adds 10 = .ok (.aload_n 0, 1) := by decide +kernel
theorem dX10_adds_11 : decode cX10_adds 11 = .ok (.getfield 82, 3) := by decide +kernel
theorem dX10_adds_14 : decode cX10_adds 14 = .ok (.bipush 20, 2) := by decide +kernel
theorem dX10_adds_16 : decode cX10_adds 16 = .ok (.if_icmp .le 43, 3) := by decide +kernel
theorem dX10_adds_19 : decode cX10_adds 19 = .ok (.iconst 0, 1) := by decide +kernel
theorem dX10_adds_20 : decode cX10_adds 20 = .ok (.istore_n 1, 1) := by decide +kernel
theorem dX10_adds_21 : decode cX10_adds 21 = .ok (.iload_n 1, 1) := by decide +kernel
theorem dX10_adds_22 : decode cX10_adds 22 = .ok (.sipush 660, 3) := by decide +kernel
theorem dX10_adds_25 : decode cX10_adds 25 = .ok (.if_icmp .ge 24, 3) := by decide +kernel
theorem dX10_adds_28 : decode cX10_adds 28 = .ok (.aload_n 0, 1) := by decide +kernel
theorem dX10_adds_29 : decode cX10_adds 29 = .ok (.getfield 245, 3) := by decide +kernel
theorem dX10_adds_32 : decode cX10_adds 32 = .ok (.iload_n 1, 1) := by decide +kernel
theorem dX10_adds_33 : decode cX10_adds 33 = .ok (.aload_n 0, 1) := by decide +kernel
theorem dX10_adds_34 : decode cX10_adds 34 = .ok (.getfield 245, 3) := by decide +kernel
theorem dX10_adds_37 : decode cX10_adds 37 = .ok (.iload_n 1, 1) := by decide +kernel
theorem dX10_adds_38 : decode cX10_adds 38 = .ok (.bipush 33, 2) := by decide +kernel
theorem dX10_adds_40 : decode cX10_adds 40 = .ok (.iadd, 1) := by decide +kernel
theorem dX10_adds_41 : decode cX10_adds 41 = .ok (.iaload, 1) := by decide +kernel
theorem dX10_adds_42 : decode cX10_adds 42 = .ok (.iastore, 1) := by decide +kernel
theorem dX10_adds_43 : decode cX10_adds 43 = .ok (.iinc 1 1, 3) := by decide +kernel
theorem dX10_adds_46 : decode cX10_adds 46 = .ok (.goto (-25), 3) := by decide +kernel
theorem dX10_adds_49 : decode cX10_adds 49 = .ok (.aload_n 0, 1) := by decide +kernel
theorem dX10_adds_50 : decode cX10_adds 50 = .ok (.dup, 1) := by decide +kernel
theorem dX10_adds_51 : decode cX10_adds 51 = .ok (.getfield 82, 3) := by decide +kernel
theorem dX10_adds_54 : decode cX10_adds 54 = .ok (.iconst 1, 1) := by decide +kernel
theorem dX10_adds_55 : decode cX10_adds 55 = .ok (.isub, 1) := by decide +kernel
theorem dX10_adds_56 : decode cX10_adds 56 = .ok (.putfield 82, 3) := by decide +kernel
theorem dX10_adds_59 : decode cX10_adds 59 = .ok (.return_, 1) := by decide +kernel
theorem dX10_undo_0 : decode cX10_undo 0 = .ok (.aload_n 0, 1) := by decide +kernel
theorem dX10_undo_1 : decode cX10_undo 1 = .ok (.iconst 0, 1) := by decide +kernel
theorem dX10_undo_2 : decode cX10_undo 2 = .ok (.putfield 3, 3) := by decide +kernel
theorem dX10_undo_5 : decode cX10_undo 5 = .ok (.aload_n 0, 1) := by decide +kernel
theorem dX10_undo_6 : decode cX10_undo 6 = .ok (.getfield 82, 3) := by decide +kernel
theorem dX10_undo_9 : decode cX10_undo 9 = .ok (.ifCond .ne 5, 3) := by decide +kernel
theorem dX10_undo_12 : decode cX10_undo 12 = .ok (.iconst (-1), 1) := by decide +kernel
theorem dX10_undo_13 : decode cX10_undo 13 = .ok (.ireturn, 1) := by decide +kernel
theorem dX10_undo_14 : decode cX10_undo 14 = .ok (.aload_n 0, 1) := by decide +kernel
theorem dX10_undo_15 : decode cX10_undo 15 = .ok (.dup, 1) := by decide +kernel
theorem dX10_undo_16 : decode cX10_undo 16 = .ok (.getfield 82, 3) := by decide +kernel
theorem dX10_undo_19 : decode cX10_undo 19 = .ok (.iconst 1, 1) := by decide +kernel
theorem dX10_undo_20 : decode cX10_undo 20 = .ok (.isub, 1) := by decide +kernel
theorem dX10_undo_21 : decode cX10_undo 21 = .ok (.putfield 82, 3) := by decide +kernel
theorem dX10_undo_24 : decode cX10_undo 24 = .ok (.iconst 0, 1) := by decide +kernel
theorem dX10_undo_25 : decode cX10_undo 25 = .ok (.istore_n 1, 1) := by decide +kernel
theorem dX10_undo_26 : decode cX10_undo 26 = .ok (.iload_n 1, 1) := by decide +kernel
theorem dX10_undo_27 : decode cX10_undo 27 = .ok (.bipush 33, 2) := by decide +kernel
theorem dX10_undo_29 : decode cX10_undo 29 = .ok (.if_icmp .ge 29, 3) := by decide +kernel
theorem dX10_undo_32 : decode cX10_undo 32 = .ok (.aload_n 0, 1) := by decide +kernel
theorem dX10_undo_33 : decode cX10_undo 33 = .ok (.getfield 79, 3) := by decide +kernel
theorem dX10_undo_36 : decode cX10_undo 36 = .ok (.iload_n 1, 1) := by decide +kernel
theorem dX10_undo_37 : decode cX10_undo 37 = .ok (.aload_n 0, 1) := by decide +kernel
theorem dX10_undo_38 : decode cX10_undo 38 = .ok (.getfield 245, 3) := by decide +kernel
theorem dX10_undo_41 : decode cX10_undo 41 = .ok (.bipush 33, 2) := by decide +kernel
theorem dX10_undo_43 : decode cX10_undo 43 = .ok (.aload_n 0, 1) := by decide +kernel
theorem dX10_undo_44 : decode cX10_undo 44 = .ok (.getfield 82, 3) := by decide +kernel
theorem dX10_undo_47 : decode cX10_undo 47 = .ok (.imul, 1) := by decide +kernel
theorem dX10_undo_48 : decode cX10_undo 48 = .ok (.iload_n 1, 1) := by decide +kernel
theorem dX10_undo_49 : decode cX10_undo 49 = .ok (.iadd, 1) := by decide +kernel
theorem dX10_undo_50 : decode cX10_undo 50 = .ok (.iaload, 1) := by decide +kernel
theorem dX10_undo_51 : decode cX10_undo 51 = .ok (.iastore, 1) := by decide +kernel
theorem dX10_undo_52 : decode cX10_undo 52 = .ok (.iinc 1 1, 3) := by decide +kernel
theorem dX10_undo_55 : decode cX10_undo 55 = .ok (.goto (-29), 3) := by decide +kernel
theorem dX10_undo_58 : decode cX10_undo 58 = .ok (.aload_n 0, 1) := by decide +kernel
theorem dX10_undo_59 : decode cX10_undo 59 = .ok (.getfield 82, 3) := by decide +kernel
theorem dX10_undo_62 : decode cX10_undo 62 = .ok (.ireturn, 1) := by decide +kernel
theorem dX10_canEnter_0 : decode cX10_canEnter 0 = .ok (.aload_n 0, 1) := by decide +kernel
theorem dX10_canEnter_1 : decode cX10_canEnter 1 = .ok (.iload_n 1, 1) := by decide +kernel
theorem dX10_canEnter_2 : decode cX10_canEnter 2 = .ok (.invokevirtual 226, 3) := by decide +kernel
theorem dX10_canEnter_5 : decode cX10_canEnter 5 = .ok (.ifCond .eq 37, 3) := by decide +kernel
theorem dX10_canEnter_8 : decode cX10_canEnter 8 = .ok (.aload_n 0, 1) := by decide +kernel
theorem dX10_canEnter_9 : decode cX10_canEnter 9 = .ok (.getfield 79, 3) := by decide +kernel
theorem dX10_canEnter_12 : decode cX10_canEnter 12 = .ok (.iload_n 1, 1) := by decide +kernel
theorem dX10_canEnter_13 : decode cX10_canEnter 13 = .ok (.iaload, 1) := by decide +kernel
theorem dX10_canEnter_14 : decode cX10_canEnter 14 = .ok (.aload_n 0, 1) := by decide +kernel
theorem dX10_canEnter_15 : decode cX10_canEnter 15 = .ok (.getfield 79, 3) := by decide +kernel
theorem dX10_canEnter_18 : decode cX10_canEnter 18 = .ok (.bipush 31, 2) := by decide +kernel
theorem dX10_canEnter_20 : decode cX10_canEnter 20 = .ok (.iaload, 1) := by decide +kernel
theorem dX10_canEnter_21 : decode cX10_canEnter 21 = .ok (.if_icmp .ne 21, 3) := by decide +kernel
theorem dX10_canEnter_24 : decode cX10_canEnter 24 = .ok (.aload_n 0, 1) := by decide +kernel
theorem dX10_canEnter_25 : decode cX10_canEnter 25 = .ok (.getfield 79, 3) := by decide +kernel
theorem dX10_canEnter_28 : decode cX10_canEnter 28 = .ok (.bipush 30, 2) := by decide +kernel
theorem dX10_canEnter_30 : decode cX10_canEnter 30 = .ok (.iaload, 1) := by decide +kernel
theorem dX10_canEnter_31 : decode cX10_canEnter 31 = .ok (.iload_n 1, 1) := by decide +kernel
theorem dX10_canEnter_32 : decode cX10_canEnter 32 = .ok (.invokestatic 195, 3) := by decide +kernel
theorem dX10_canEnter_35 : decode cX10_canEnter 35 = .ok (.ifCond .ne 7, 3) := by decide +kernel
theorem dX10_canEnter_38 : decode cX10_canEnter 38 = .ok (.iconst 1, 1) := by decide +kernel
theorem dX10_canEnter_39 : decode cX10_canEnter 39 = .ok (.goto 4, 3) := by decide +kernel
theorem dX10_canEnter_42 : decode cX10_canEnter 42 = .ok (.iconst 0, 1) := by decide +kernel
theorem dX10_canEnter_43 : decode cX10_canEnter 43 = .ok (.ireturn, 1) := by decide +kernel
theorem dX10_canLeave_0 : decode cX10_canLeave 0 = .ok (.aload_n 0, 1) := by decide +kernel
theorem dX10_canLeave_1 : decode cX10_canLeave 1 = .ok (.iload_n 1, 1) := by decide +kernel
theorem dX10_canLeave_2 : decode cX10_canLeave 2 = .ok (.invokevirtual 226, 3) := by decide +kernel
theorem dX10_canLeave_5 : decode cX10_canLeave 5 = .ok (.ifCond .eq 21, 3) := by decide +kernel
theorem dX10_canLeave_8 : decode cX10_canLeave 8 = .ok (.aload_n 0, 1) := by decide +kernel
theorem dX10_canLeave_9 : decode cX10_canLeave 9 = .ok (.getfield 79, 3) := by decide +kernel
theorem dX10_canLeave_12 : decode cX10_canLeave 12 = .ok (.bipush 30, 2) := by decide +kernel
theorem dX10_canLeave_14 : decode cX10_canLeave 14 = .ok (.iaload, 1) := by decide +kernel
theorem dX10_canLeave_15 : decode cX10_canLeave 15 = .ok (.iload_n 1, 1) := by decide +kernel
theorem dX10_canLeave_16 : decode cX10_canLeave 16 = .ok (.invokestatic 195, 3) := by decide +kernel
theorem dX10_canLeave_19 : decode cX10_canLeave 19 = .ok (.ifCond .eq 7, 3) := by decide +kernel
theorem dX10_canLeave_22 : decode cX10_canLeave 22 = .ok (.iconst 1, 1) := by decide +kernel
theorem dX10_canLeave_23 : decode cX10_canLeave 23 = .ok (.goto 4, 3) := by decide +kernel
theorem dX10_canLeave_26 : decode cX10_canLeave 26 = .ok (.iconst 0, 1) := by decide +kernel
theorem dX10_canLeave_27 : decode cX10_canLeave 27 = .ok (.ireturn, 1) := by decide +kernel
theorem dX10_enter_0 : decode cX10_enter 0 = .ok (.aload_n 0, 1) := by decide +kernel
theorem dX10_enter_1 : decode cX10_enter 1 = .ok (.iconst 0, 1) := by decide +kernel
theorem dX10_enter_2 : decode cX10_enter 2 = .ok (.putfield 3, 3) := by decide +kernel
theorem dX10_enter_5 : decode cX10_enter 5 = .ok (.aload_n 0, 1) := by decide +kernel
theorem dX10_enter_6 : decode cX10_enter 6 = .ok (.iload_n 1, 1) := by decide +kernel
theorem dX10_enter_7 : decode cX10_enter 7 = .ok (.invokevirtual 248, 3) := by decide +kernel
theorem dX10_enter_10 : decode cX10_enter 10 = .ok (.ifCond .ne 5, 3) := by decide +kernel
theorem dX10_enter_13 : decode cX10_enter 13 = .ok (.iconst 0, 1) := by decide +kernel
theorem dX10_enter_14 : decode cX10_enter 14 = .ok (.ireturn, 1) := by decide +kernel
theorem dX10_enter_15 : decode cX10_enter 15 = .ok (.aload_n 0, 1) := by decide +kernel
theorem dX10_enter_16 : decode cX10_enter 16 = .ok (.invokevirtual 251, 3) := by decide +kernel
theorem dX10_enter_19 : decode cX10_enter 19 = .ok (.aload_n 0, 1) := by decide +kernel
theorem dX10_enter_20 : decode cX10_enter 20 = .ok (.getfield 79, 3) := by decide +kernel
theorem dX10_enter_23 : decode cX10_enter 23 = .ok (.bipush 30, 2) := by decide +kernel
theorem dX10_enter_25 : decode cX10_enter 25 = .ok (.dup2, 1) := by decide +kernel
theorem dX10_enter_26 : decode cX10_enter 26 = .ok (.iaload, 1) := by decide +kernel
theorem dX10_enter_27 : decode cX10_enter 27 = .ok (.iconst 1, 1) := by decide +kernel
theorem dX10_enter_28 : decode cX10_enter 28 = .ok (.iload_n 1, 1) := by decide +kernel
theorem dX10_enter_29 : decode cX10_enter 29 = .ok (.ishl, 1) := by decide +kernel
theorem dX10_enter_30 : decode cX10_enter 30 = .ok (.ior, 1) := by decide +kernel
theorem dX10_enter_31 : decode cX10_enter 31 = .ok (.iastore, 1) := by decide +kernel
theorem dX10_enter_32 : decode cX10_enter 32 = .ok (.aload_n 0, 1) := by decide +kernel
theorem dX10_enter_33 : decode cX10_enter 33 = .ok (.invokevirtual 255, 3) := by decide +kernel
theorem dX10_enter_36 : decode cX10_enter 36 = .ok (.iconst 1, 1) := by decide +kernel
theorem dX10_enter_37 : decode cX10_enter 37 = .ok (.ireturn, 1) := by decide +kernel
theorem dX10_leave_0 : decode cX10_leave 0 = .ok (.aload_n 0, 1) := by decide +kernel
theorem dX10_leave_1 : decode cX10_leave 1 = .ok (.iconst 0, 1) := by decide +kernel
theorem dX10_leave_2 : decode cX10_leave 2 = .ok (.putfield 3, 3) := by decide +kernel
theorem dX10_leave_5 : decode cX10_leave 5 = .ok (.aload_n 0, 1) := by decide +kernel
theorem dX10_leave_6 : decode cX10_leave 6 = .ok (.iload_n 1, 1) := by decide +kernel
theorem dX10_leave_7 : decode cX10_leave 7 = .ok (.invokevirtual 258, 3) := by decide +kernel
theorem dX10_leave_10 : decode cX10_leave 10 = .ok (.ifCond .ne 5, 3) := by decide +kernel
theorem dX10_leave_13 : decode cX10_leave 13 = .ok (.iconst 0, 1) := by decide +kernel
theorem dX10_leave_14 : decode cX10_leave 14 = .ok (.ireturn, 1) := by decide +kernel
theorem dX10_leave_15 : decode cX10_leave 15 = .ok (.aload_n 0, 1) := by decide +kernel
theorem dX10_leave_16 : decode cX10_leave 16 = .ok (.invokevirtual 251, 3) := by decide +kernel
theorem dX10_leave_19 : decode cX10_leave 19 = .ok (.aload_n 0, 1) := by decide +kernel
theorem dX10_leave_20 : decode cX10_leave 20 = .ok (.getfield 79, 3) := by decide +kernel
theorem dX10_leave_23 : decode cX10_leave 23 = .ok (.bipush 30, 2) := by decide +kernel
theorem dX10_leave_25 : decode cX10_leave 25 = .ok (.dup2, 1) := by decide +kernel
theorem dX10_leave_26 : decode cX10_leave 26 = .ok (.iaload, 1) := by decide +kernel
theorem dX10_leave_27 : decode cX10_leave 27 = .ok (.iconst 1, 1) := by decide +kernel
theorem dX10_leave_28 : decode cX10_leave 28 = .ok (.iload_n 1, 1) := by decide +kernel
theorem dX10_leave_29 : decode cX10_leave 29 = .ok (.ishl, 1) := by decide +kernel
theorem dX10_leave_30 : decode cX10_leave 30 = .ok (.iconst (-1), 1) := by decide +kernel
theorem dX10_leave_31 : decode cX10_leave 31 = .ok (.ixor, 1) := by decide +kernel
theorem dX10_leave_32 : decode cX10_leave 32 = .ok (.iand, 1) := by decide +kernel
theorem dX10_leave_33 : decode cX10_leave 33 = .ok (.iastore, 1) := by decide +kernel
theorem dX10_leave_34 : decode cX10_leave 34 = .ok (.aload_n 0, 1) := by decide +kernel
theorem dX10_leave_35 : decode cX10_leave 35 = .ok (.invokevirtual 255, 3) := by decide +kernel
theorem dX10_leave_38 : decode cX10_leave 38 = .ok (.iconst 1, 1) := by decide +kernel
theorem dX10_leave_39 : decode cX10_leave 39 = .ok (.ireturn, 1) := by decide +kernel
theorem dX10_ride_0 : decode cX10_ride 0 = .ok (.aload_n 0, 1) := by decide +kernel
theorem dX10_ride_1 : decode cX10_ride 1 = .ok (.iconst 0, 1) := by decide +kernel
theorem dX10_ride_2 : decode cX10_ride 2 = .ok (.putfield 3, 3) := by decide +kernel
theorem dX10_ride_5 : decode cX10_ride 5 = .ok (.aload_n 0, 1) := by decide +kernel
theorem dX10_ride_6 : decode cX10_ride 6 = .ok (.invokevirtual 251, 3) := by decide +kernel
theorem dX10_ride_9 : decode cX10_ride 9 = .ok (.aload_n 0, 1) := by decide +kernel
theorem dX10_ride_10 : decode cX10_ride 10 = .ok (.aload_n 0, 1) := by decide +kernel
theorem dX10_ride_11 : decode cX10_ride 11 = .ok (.getfield 79, 3) := by decide +kernel
theorem dX10_ride_14 : decode cX10_ride 14 = .ok (.aload_n 0, 1) := by decide +kernel
theorem dX10_ride_15 : decode cX10_ride 15 = .ok (.getfield 79, 3) := by decide +kernel
theorem dX10_ride_18 : decode cX10_ride 18 = .ok (.bipush 30, 2) := by decide +kernel
theorem dX10_ride_20 : decode cX10_ride 20 = .ok (.iaload, 1) := by decide +kernel
theorem dX10_ride_21 : decode cX10_ride 21 = .ok (.invokevirtual 261, 3) := by decide +kernel
theorem dX10_ride_24 : decode cX10_ride 24 = .ok (.istore_n 1, 1) := by decide +kernel
theorem dX10_ride_25 : decode cX10_ride 25 = .ok (.aload_n 0, 1) := by decide +kernel
theorem dX10_ride_26 : decode cX10_ride 26 = .ok (.invokevirtual 255, 3) := by decide +kernel
theorem dX10_ride_29 : decode cX10_ride 29 = .ok (.aload_n 0, 1) := by decide +kernel
theorem dX10_ride_30 : decode cX10_ride 30 = .ok (.iconst 0, 1) := by decide +kernel
theorem dX10_ride_31 : decode cX10_ride 31 = .ok (.putfield 15, 3) := by decide +kernel
theorem dX10_ride_34 : decode cX10_ride 34 = .ok (.aload_n 0, 1) := by decide +kernel
theorem dX10_ride_35 : decode cX10_ride 35 = .ok (.iload_n 1, 1) := by decide +kernel
theorem dX10_ride_36 : decode cX10_ride 36 = .ok (.i2l, 1) := by decide +kernel
theorem dX10_ride_37 : decode cX10_ride 37 = .ok (.invokevirtual 18, 3) := by decide +kernel
theorem dX10_ride_40 : decode cX10_ride 40 = .ok (.aload_n 0, 1) := by decide +kernel
theorem dX10_ride_41 : decode cX10_ride 41 = .ok (.getfield 79, 3) := by decide +kernel
theorem dX10_ride_44 : decode cX10_ride 44 = .ok (.bipush 31, 2) := by decide +kernel
theorem dX10_ride_46 : decode cX10_ride 46 = .ok (.iaload, 1) := by decide +kernel
theorem dX10_ride_47 : decode cX10_ride 47 = .ok (.ireturn, 1) := by decide +kernel
theorem dX10_rides_0 : decode cX10_rides 0 = .ok (.aload_n 0, 1) := by decide +kernel
theorem dX10_rides_1 : decode cX10_rides 1 = .ok (.iconst 0, 1) := by decide +kernel
theorem dX10_rides_2 : decode cX10_rides 2 = .ok (.putfield 3, 3) := by decide +kernel
theorem dX10_rides_5 : decode cX10_rides 5 = .ok (.iload_n 1, 1) := by decide +kernel
theorem dX10_rides_6 : decode cX10_rides 6 = .ok (.i2l, 1) := by decide +kernel
theorem dX10_rides_7 : decode cX10_rides 7 = .ok (.lconst 0, 1) := by decide +kernel
theorem dX10_rides_8 : decode cX10_rides 8 = .ok (.ldc2_w 264, 3) := by decide +kernel
theorem dX10_rides_11 : decode cX10_rides 11 = .ok (.invokestatic 25, 3) := by decide +kernel
theorem dX10_rides_14 : decode cX10_rides 14 = .ok (.ifCond .ne 5, 3) := by decide +kernel
theorem dX10_rides_17 : decode cX10_rides 17 = .ok (.iconst (-1), 1) := by decide +kernel
theorem dX10_rides_18 : decode cX10_rides 18 = .ok (.ireturn, 1) := by decide +kernel
theorem dX10_rides_19 : decode cX10_rides 19 = .ok (.aload_n 0, 1) := by decide +kernel
theorem dX10_rides_20 : decode cX10_rides 20 = .ok (.invokevirtual 251, 3) := by decide +kernel
theorem dX10_rides_23 : decode cX10_rides 23 = .ok (.iconst 0, 1) := by decide +kernel
theorem dX10_rides_24 : decode cX10_rides 24 = .ok (.istore_n 2, 1) := by decide +kernel
theorem dX10_rides_25 : decode cX10_rides 25 = .ok (.iconst 0, 1) := by decide +kernel
theorem dX10_rides_26 : decode cX10_rides 26 = .ok (.istore_n 3, 1) := by decide +kernel
theorem dX10_rides_27 : decode cX10_rides 27 = .ok (.iload_n 2, 1) := by decide +kernel
theorem dX10_rides_28 : decode cX10_rides 28 = .ok (.iload_n 1, 1) := by decide +kernel
theorem dX10_rides_29 : decode cX10_rides 29 = .ok (.if_icmp .ge 37, 3) := by decide +kernel
theorem dX10_rides_32 : decode cX10_rides 32 = .ok (.aload_n 0, 1) := by decide +kernel
theorem dX10_rides_33 : decode cX10_rides 33 = .ok (.getfield 79, 3) := by decide +kernel
theorem dX10_rides_36 : decode cX10_rides 36 = .ok (.bipush 30, 2) := by decide +kernel
theorem dX10_rides_38 : decode cX10_rides 38 = .ok (.iaload, 1) := by decide +kernel
theorem dX10_rides_39 : decode cX10_rides 39 = .ok (.ifCond .eq 27, 3) := by decide +kernel
theorem dX10_rides_42 : decode cX10_rides 42 = .ok (.iload_n 3, 1) := by decide +kernel
theorem dX10_rides_43 : decode cX10_rides 43 = .ok (.aload_n 0, 1) := by decide +kernel
theorem dX10_rides_44 : decode cX10_rides 44 = .ok (.aload_n 0, 1) := by decide +kernel
theorem dX10_rides_45 : decode cX10_rides 45 = .ok (.getfield 79, 3) := by decide +kernel
theorem dX10_rides_48 : decode cX10_rides 48 = .ok (.aload_n 0, 1) := by decide +kernel
theorem dX10_rides_49 : decode cX10_rides 49 = .ok (.getfield 79, 3) := by decide +kernel
theorem dX10_rides_52 : decode cX10_rides 52 = .ok (.bipush 30, 2) := by decide +kernel
theorem dX10_rides_54 : decode cX10_rides 54 = .ok (.iaload, 1) := by decide +kernel
theorem dX10_rides_55 : decode cX10_rides 55 = .ok (.invokevirtual 261, 3) := by decide +kernel
theorem dX10_rides_58 : decode cX10_rides 58 = .ok (.ior, 1) := by decide +kernel
theorem dX10_rides_59 : decode cX10_rides 59 = .ok (.istore_n 3, 1) := by decide +kernel
theorem dX10_rides_60 : decode cX10_rides 60 = .ok (.iinc 2 1, 3) := by decide +kernel
theorem dX10_rides_63 : decode cX10_rides 63 = .ok (.goto (-36), 3) := by decide +kernel
theorem dX10_rides_66 : decode cX10_rides 66 = .ok (.iload_n 2, 1) := by decide +kernel
theorem dX10_rides_67 : decode cX10_rides 67 = .ok (.ifCond .le 7, 3) := by decide +kernel
theorem dX10_rides_70 : decode cX10_rides 70 = .ok (.aload_n 0, 1) := by decide +kernel
theorem dX10_rides_71 : decode cX10_rides 71 = .ok (.invokevirtual 255, 3) := by decide +kernel
theorem dX10_rides_74 : decode cX10_rides 74 = .ok (.aload_n 0, 1) := by decide +kernel
theorem dX10_rides_75 : decode cX10_rides 75 = .ok (.iconst 0, 1) := by decide +kernel
theorem dX10_rides_76 : decode cX10_rides 76 = .ok (.putfield 15, 3) := by decide +kernel
theorem dX10_rides_79 : decode cX10_rides 79 = .ok (.aload_n 0, 1) := by decide +kernel
theorem dX10_rides_80 : decode cX10_rides 80 = .ok (.iload_n 3, 1) := by decide +kernel
theorem dX10_rides_81 : decode cX10_rides 81 = .ok (.i2l, 1) := by decide +kernel
theorem dX10_rides_82 : decode cX10_rides 82 = .ok (.invokevirtual 18, 3) := by decide +kernel
theorem dX10_rides_85 : decode cX10_rides 85 = .ok (.aload_n 0, 1) := by decide +kernel
theorem dX10_rides_86 : decode cX10_rides 86 = .ok (.aload_n 0, 1) := by decide +kernel
theorem dX10_rides_87 : decode cX10_rides 87 = .ok (.getfield 79, 3) := by decide +kernel
theorem dX10_rides_90 : decode cX10_rides 90 = .ok (.bipush 31, 2) := by decide +kernel
theorem dX10_rides_92 : decode cX10_rides 92 = .ok (.iaload, 1) := by decide +kernel
theorem dX10_rides_93 : decode cX10_rides 93 = .ok (.i2l, 1) := by decide +kernel
theorem dX10_rides_94 : decode cX10_rides 94 = .ok (.invokevirtual 18, 3) := by decide +kernel
theorem dX10_rides_97 : decode cX10_rides 97 = .ok (.iload_n 2, 1) := by decide +kernel
theorem dX10_rides_98 : decode cX10_rides 98 = .ok (.ireturn, 1) := by decide +kernel
theorem dX10_readsAct_0 : decode cX10_readsAct 0 = .ok (.aload_n 0, 1) := by decide +kernel
theorem dX10_readsAct_1 : decode cX10_readsAct 1 = .ok (.ldc_w 266, 3) := by decide +kernel
theorem dX10_readsAct_4 : decode cX10_readsAct 4 = .ok (.invokevirtual 156, 3) := by decide +kernel
theorem dX10_readsAct_7 : decode cX10_readsAct 7 = .ok (.istore_n 1, 1) := by decide +kernel
theorem dX10_readsAct_8 : decode cX10_readsAct 8 = .ok (.iload_n 1, 1) := by decide +kernel
theorem dX10_readsAct_9 : decode cX10_readsAct 9 = .ok (.ifCond .ge 5, 3) := by decide +kernel
theorem dX10_readsAct_12 : decode cX10_readsAct 12 = .ok (.iconst 0, 1) := by decide +kernel
theorem dX10_readsAct_13 : decode cX10_readsAct 13 = .ok (.ireturn, 1) := by decide +kernel
theorem dX10_readsAct_14 : decode cX10_readsAct 14 = .ok (.aload_n 0, 1) := by decide +kernel
theorem dX10_readsAct_15 : decode cX10_readsAct 15 = .ok (.dup, 1) := by decide +kernel
theorem dX10_readsAct_16 : decode cX10_readsAct 16 = .ok (.getfield 39, 3) := by decide +kernel
theorem dX10_readsAct_19 : decode cX10_readsAct 19 = .ok (.iconst 1, 1) := by decide +kernel
theorem dX10_readsAct_20 : decode cX10_readsAct 20 = .ok (.iadd, 1) := by decide +kernel
theorem dX10_readsAct_21 : decode cX10_readsAct 21 = .ok (.putfield 39, 3) := by decide +kernel
theorem dX10_readsAct_24 : decode cX10_readsAct 24 = .ok (.aload_n 0, 1) := by decide +kernel
theorem dX10_readsAct_25 : decode cX10_readsAct 25 = .ok (.getfield 268, 3) := by decide +kernel
theorem dX10_readsAct_28 : decode cX10_readsAct 28 = .ok (.aload_n 0, 1) := by decide +kernel
theorem dX10_readsAct_29 : decode cX10_readsAct 29 = .ok (.getfield 271, 3) := by decide +kernel
theorem dX10_readsAct_32 : decode cX10_readsAct 32 = .ok (.iload_n 1, 1) := by decide +kernel
theorem dX10_readsAct_33 : decode cX10_readsAct 33 = .ok (.iastore, 1) := by decide +kernel
theorem dX10_readsAct_34 : decode cX10_readsAct 34 = .ok (.iload_n 1, 1) := by decide +kernel
theorem dX10_readsAct_35 : decode cX10_readsAct 35 = .ok (.iconst 3, 1) := by decide +kernel
theorem dX10_readsAct_36 : decode cX10_readsAct 36 = .ok (.if_icmp .ne 77, 3) := by decide +kernel
theorem dX10_readsAct_39 : decode cX10_readsAct 39 = .ok (.aload_n 0, 1) := by decide +kernel
theorem dX10_readsAct_40 : decode cX10_readsAct 40 = .ok (.getfield 274, 3) := by decide +kernel
theorem dX10_readsAct_43 : decode cX10_readsAct 43 = .ok (.aload_n 0, 1) := by decide +kernel
theorem dX10_readsAct_44 : decode cX10_readsAct 44 = .ok (.getfield 271, 3) := by decide +kernel
theorem dX10_readsAct_47 : decode cX10_readsAct 47 = .ok (.iconst 1, 1) := by decide +kernel
theorem dX10_readsAct_48 : decode cX10_readsAct 48 = .ok (.iastore, 1) := by decide +kernel
theorem dX10_readsAct_49 : decode cX10_readsAct 49 = .ok (.aload_n 0, 1) := by decide +kernel
theorem dX10_readsAct_50 : decode cX10_readsAct 50 = .ok (.invokevirtual 91, 3) := by decide +kernel
theorem dX10_readsAct_53 : decode cX10_readsAct 53 = .ok (.ifCond .eq 48, 3) := by decide +kernel
theorem dX10_readsAct_56 : decode cX10_readsAct 56 = .ok (.aload_n 0, 1) := by decide +kernel
theorem dX10_readsAct_57 : decode cX10_readsAct 57 = .ok (.getfield 35, 3) := by decide +kernel
theorem dX10_readsAct_60 : decode cX10_readsAct 60 = .ok (.aload_n 0, 1) := by decide +kernel
theorem dX10_readsAct_61 : decode cX10_readsAct 61 = .ok (.getfield 39, 3) := by decide +kernel
theorem dX10_readsAct_64 : decode cX10_readsAct 64 = .ok (.iaload, 1) := by decide +kernel
theorem dX10_readsAct_65 : decode cX10_readsAct 65 = .ok (.bipush 48, 2) := by decide +kernel
theorem dX10_readsAct_67 : decode cX10_readsAct 67 = .ok (.if_icmp .eq 34, 3) := by decide +kernel
theorem dX10_readsAct_70 : decode cX10_readsAct 70 = .ok (.aload_n 0, 1) := by decide +kernel
theorem dX10_readsAct_71 : decode cX10_readsAct 71 = .ok (.getfield 274, 3) := by decide +kernel
theorem dX10_readsAct_74 : decode cX10_readsAct 74 = .ok (.aload_n 0, 1) := by decide +kernel
theorem dX10_readsAct_75 : decode cX10_readsAct 75 = .ok (.getfield 271, 3) := by decide +kernel
theorem dX10_readsAct_78 : decode cX10_readsAct 78 = .ok (.aload_n 0, 1) := by decide +kernel
theorem dX10_readsAct_79 : decode cX10_readsAct 79 = .ok (.getfield 35, 3) := by decide +kernel
theorem dX10_readsAct_82 : decode cX10_readsAct 82 = .ok (.aload_n 0, 1) := by decide +kernel
theorem dX10_readsAct_83 : decode cX10_readsAct 83 = .ok (.getfield 39, 3) := by decide +kernel
theorem dX10_readsAct_86 : decode cX10_readsAct 86 = .ok (.iaload, 1) := by decide +kernel
theorem dX10_readsAct_87 : decode cX10_readsAct 87 = .ok (.bipush 48, 2) := by decide +kernel
theorem dX10_readsAct_89 : decode cX10_readsAct 89 = .ok (.isub, 1) := by decide +kernel
theorem dX10_readsAct_90 : decode cX10_readsAct 90 = .ok (.iastore, 1) := by decide +kernel
theorem dX10_readsAct_91 : decode cX10_readsAct 91 = .ok (.aload_n 0, 1) := by decide +kernel
theorem dX10_readsAct_92 : decode cX10_readsAct 92 = .ok (.dup, 1) := by decide +kernel
theorem dX10_readsAct_93 : decode cX10_readsAct 93 = .ok (.getfield 39, 3) := by decide +kernel
theorem dX10_readsAct_96 : decode cX10_readsAct 96 = .ok (.iconst 1, 1) := by decide +kernel
theorem dX10_readsAct_97 : decode cX10_readsAct 97 = .ok (.iadd, 1) := by decide +kernel
theorem dX10_readsAct_98 : decode cX10_readsAct 98 = .ok (.putfield 39, 3) := by decide +kernel
theorem dX10_readsAct_101 : decode cX10_readsAct 101 = .ok (.aload_n 0, 1) := by decide +kernel
theorem dX10_readsAct_102 : decode cX10_readsAct 102 = .ok (.dup, 1) := by decide +kernel
theorem dX10_readsAct_103 : decode cX10_readsAct 103 = .ok (.getfield 271, 3) := by decide +kernel
theorem dX10_readsAct_106 : decode cX10_readsAct 106 = .ok (.iconst 1, 1) := by decide +kernel
theorem dX10_readsAct_107 : decode cX10_readsAct 107 = .ok (.iadd, 1) := by decide +kernel
theorem dX10_readsAct_108 : decode cX10_readsAct 108 = .ok (.putfield 271, 3) := by decide +kernel
theorem dX10_readsAct_111 : decode cX10_readsAct 111 = .ok (.iconst 1, 1) := by decide +kernel
theorem dX10_readsAct_112 : decode cX10_readsAct 112 = .ok (.ireturn, 1) := by decide +kernel
theorem dX10_readsAct_113 : decode cX10_readsAct 113 = .ok (.iconst (-1), 1) := by decide +kernel
theorem dX10_readsAct_114 : decode cX10_readsAct 114 = .ok (.istore_n 2, 1) := by decide +kernel
theorem dX10_readsAct_115 : decode cX10_readsAct 115 = .ok (.iconst 0, 1) := by decide +kernel
theorem dX10_readsAct_116 : decode cX10_readsAct 116 = .ok (.istore_n 3, 1) := by decide +kernel
theorem dX10_readsAct_117 : decode cX10_readsAct 117 = .ok (.aload_n 0, 1) := by decide +kernel
theorem dX10_readsAct_118 : decode cX10_readsAct 118 = .ok (.getfield 39, 3) := by decide +kernel
theorem dX10_readsAct_121 : decode cX10_readsAct 121 = .ok (.aload_n 0, 1) := by decide +kernel
theorem dX10_readsAct_122 : decode cX10_readsAct 122 = .ok (.getfield 51, 3) := by decide +kernel
theorem dX10_readsAct_125 : decode cX10_readsAct 125 = .ok (.if_icmp .ge 70, 3) := by decide +kernel
theorem dX10_readsAct_128 : decode cX10_readsAct 128 = .ok (.aload_n 0, 1) := by decide +kernel
theorem dX10_readsAct_129 : decode cX10_readsAct 129 = .ok (.getfield 35, 3) := by decide +kernel
theorem dX10_readsAct_132 : decode cX10_readsAct 132 = .ok (.aload_n 0, 1) := by decide +kernel
theorem dX10_readsAct_133 : decode cX10_readsAct 133 = .ok (.getfield 39, 3) := by decide +kernel
theorem dX10_readsAct_136 : decode cX10_readsAct 136 = .ok (.iaload, 1) := by decide +kernel
theorem dX10_readsAct_137 : decode cX10_readsAct 137 = .ok (.bipush 97, 2) := by decide +kernel
theorem dX10_readsAct_139 : decode cX10_readsAct 139 = .ok (.isub, 1) := by decide +kernel
theorem dX10_readsAct_140 : decode cX10_readsAct 140 = .ok (.i2l, 1) := by decide +kernel
theorem dX10_readsAct_141 : decode cX10_readsAct 141 = .ok (.iload_n 2, 1) := by decide +kernel
theorem dX10_readsAct_142 : decode cX10_readsAct 142 = .ok (.iconst 1, 1) := by decide +kernel
theorem dX10_readsAct_143 : decode cX10_readsAct 143 = .ok (.iadd, 1) := by decide +kernel
theorem dX10_readsAct_144 : decode cX10_readsAct 144 = .ok (.i2l, 1) := by decide +kernel
theorem dX10_readsAct_145 : decode cX10_readsAct 145 = .ok (.ldc2_w 74, 3) := by decide +kernel
theorem dX10_readsAct_148 : decode cX10_readsAct 148 = .ok (.invokestatic 25, 3) := by decide +kernel
theorem dX10_readsAct_151 : decode cX10_readsAct 151 = .ok (.ifCond .eq 44, 3) := by decide +kernel
theorem dX10_readsAct_154 : decode cX10_readsAct 154 = .ok (.iload_n 1, 1) := by decide +kernel
theorem dX10_readsAct_155 : decode cX10_readsAct 155 = .ok (.iconst 2, 1) := by decide +kernel
theorem dX10_readsAct_156 : decode cX10_readsAct 156 = .ok (.if_icmp .lt 7, 3) := by decide +kernel
theorem dX10_readsAct_159 : decode cX10_readsAct 159 = .ok (.iload_n 3, 1) := by decide +kernel
theorem dX10_readsAct_160 : decode cX10_readsAct 160 = .ok (.ifCond .ne 35, 3) := by decide +kernel
theorem dX10_readsAct_163 : decode cX10_readsAct 163 = .ok (.aload_n 0, 1) := by decide +kernel
theorem dX10_readsAct_164 : decode cX10_readsAct 164 = .ok (.getfield 35, 3) := by decide +kernel
theorem dX10_readsAct_167 : decode cX10_readsAct 167 = .ok (.aload_n 0, 1) := by decide +kernel
theorem dX10_readsAct_168 : decode cX10_readsAct 168 = .ok (.getfield 39, 3) := by decide +kernel
theorem dX10_readsAct_171 : decode cX10_readsAct 171 = .ok (.iaload, 1) := by decide +kernel
theorem dX10_readsAct_172 : decode cX10_readsAct 172 = .ok (.bipush 97, 2) := by decide +kernel
theorem dX10_readsAct_174 : decode cX10_readsAct 174 = .ok (.isub, 1) := by decide +kernel
theorem dX10_readsAct_175 : decode cX10_readsAct 175 = .ok (.istore_n 2, 1) := by decide +kernel
theorem dX10_readsAct_176 : decode cX10_readsAct 176 = .ok (.iload_n 3, 1) := by decide +kernel
theorem dX10_readsAct_177 : decode cX10_readsAct 177 = .ok (.iconst 1, 1) := by decide +kernel
theorem dX10_readsAct_178 : decode cX10_readsAct 178 = .ok (.iload_n 2, 1) := by decide +kernel
theorem dX10_readsAct_179 : decode cX10_readsAct 179 = .ok (.ishl, 1) := by decide +kernel
theorem dX10_readsAct_180 : decode cX10_readsAct 180 = .ok (.ior, 1) := by decide +kernel
theorem dX10_readsAct_181 : decode cX10_readsAct 181 = .ok (.istore_n 3, 1) := by decide +kernel
theorem dX10_readsAct_182 : decode cX10_readsAct 182 = .ok (.aload_n 0, 1) := by decide +kernel
theorem dX10_readsAct_183 : decode cX10_readsAct 183 = .ok (.dup, 1) := by decide +kernel
theorem dX10_readsAct_184 : decode cX10_readsAct 184 = .ok (.getfield 39, 3) := by decide +kernel
theorem dX10_readsAct_187 : decode cX10_readsAct 187 = .ok (.iconst 1, 1) := by decide +kernel
theorem dX10_readsAct_188 : decode cX10_readsAct 188 = .ok (.iadd, 1) := by decide +kernel
theorem dX10_readsAct_189 : decode cX10_readsAct 189 = .ok (.putfield 39, 3) := by decide +kernel
theorem dX10_readsAct_192 : decode cX10_readsAct 192 = .ok (.goto (-75), 3) := by decide +kernel
theorem dX10_readsAct_195 : decode cX10_readsAct 195 = .ok (.aload_n 0, 1) := by decide +kernel
theorem dX10_readsAct_196 : decode cX10_readsAct 196 = .ok (.getfield 277, 3) := by decide +kernel
theorem dX10_readsAct_199 : decode cX10_readsAct 199 = .ok (.aload_n 0, 1) := by decide +kernel
theorem dX10_readsAct_200 : decode cX10_readsAct 200 = .ok (.getfield 271, 3) := by decide +kernel
theorem dX10_readsAct_203 : decode cX10_readsAct 203 = .ok (.iload_n 3, 1) := by decide +kernel
theorem dX10_readsAct_204 : decode cX10_readsAct 204 = .ok (.iastore, 1) := by decide +kernel
theorem dX10_readsAct_205 : decode cX10_readsAct 205 = .ok (.iload_n 3, 1) := by decide +kernel
theorem dX10_readsAct_206 : decode cX10_readsAct 206 = .ok (.ifCond .ne 5, 3) := by decide +kernel
theorem dX10_readsAct_209 : decode cX10_readsAct 209 = .ok (.iconst 0, 1) := by decide +kernel
theorem dX10_readsAct_210 : decode cX10_readsAct 210 = .ok (.ireturn, 1) := by decide +kernel
theorem dX10_readsAct_211 : decode cX10_readsAct 211 = .ok (.iload_n 1, 1) := by decide +kernel
theorem dX10_readsAct_212 : decode cX10_readsAct 212 = .ok (.iconst 2, 1) := by decide +kernel
theorem dX10_readsAct_213 : decode cX10_readsAct 213 = .ok (.if_icmp .ne 62, 3) := by decide +kernel
theorem dX10_readsAct_216 : decode cX10_readsAct 216 = .ok (.aload_n 0, 1) := by decide +kernel
theorem dX10_readsAct_217 : decode cX10_readsAct 217 = .ok (.getfield 280, 3) := by decide +kernel
theorem dX10_readsAct_220 : decode cX10_readsAct 220 = .ok (.aload_n 0, 1) := by decide +kernel
theorem dX10_readsAct_221 : decode cX10_readsAct 221 = .ok (.getfield 271, 3) := by decide +kernel
theorem dX10_readsAct_224 : decode cX10_readsAct 224 = .ok (.iconst (-1), 1) := by decide +kernel
theorem dX10_readsAct_225 : decode cX10_readsAct 225 = .ok (.iastore, 1) := by decide +kernel
theorem dX10_readsAct_226 : decode cX10_readsAct 226 = .ok (.aload_n 0, 1) := by decide +kernel
theorem dX10_readsAct_227 : decode cX10_readsAct 227 = .ok (.bipush 45, 2) := by decide +kernel
theorem dX10_readsAct_229 : decode cX10_readsAct 229 = .ok (.invokevirtual 108, 3) := by decide +kernel
theorem dX10_readsAct_232 : decode cX10_readsAct 232 = .ok (.ifCond .ne 43, 3) := by decide +kernel
theorem dX10_readsAct_235 : decode cX10_readsAct 235 = .ok (.aload_n 0, 1) := by decide +kernel
theorem dX10_readsAct_236 : decode cX10_readsAct 236 = .ok (.invokevirtual 91, 3) := by decide +kernel
theorem dX10_readsAct_239 : decode cX10_readsAct 239 = .ok (.ifCond .ne 5, 3) := by decide +kernel
theorem dX10_readsAct_242 : decode cX10_readsAct 242 = .ok (.iconst 0, 1) := by decide +kernel
theorem dX10_readsAct_243 : decode cX10_readsAct 243 = .ok (.ireturn, 1) := by decide +kernel
theorem dX10_readsAct_244 : decode cX10_readsAct 244 = .ok (.aload_n 0, 1) := by decide +kernel
theorem dX10_readsAct_245 : decode cX10_readsAct 245 = .ok (.getfield 280, 3) := by decide +kernel
theorem dX10_readsAct_248 : decode cX10_readsAct 248 = .ok (.aload_n 0, 1) := by decide +kernel
theorem dX10_readsAct_249 : decode cX10_readsAct 249 = .ok (.getfield 271, 3) := by decide +kernel
theorem dX10_readsAct_252 : decode cX10_readsAct 252 = .ok (.aload_n 0, 1) := by decide +kernel
theorem dX10_readsAct_253 : decode cX10_readsAct 253 = .ok (.getfield 35, 3) := by decide +kernel
theorem dX10_readsAct_256 : decode cX10_readsAct 256 = .ok (.aload_n 0, 1) := by decide +kernel
theorem dX10_readsAct_257 : decode cX10_readsAct 257 = .ok (.getfield 39, 3) := by decide +kernel
theorem dX10_readsAct_260 : decode cX10_readsAct 260 = .ok (.iaload, 1) := by decide +kernel
theorem dX10_readsAct_261 : decode cX10_readsAct 261 = .ok (.bipush 48, 2) := by decide +kernel
theorem dX10_readsAct_263 : decode cX10_readsAct 263 = .ok (.isub, 1) := by decide +kernel
theorem dX10_readsAct_264 : decode cX10_readsAct 264 = .ok (.iastore, 1) := by decide +kernel
theorem dX10_readsAct_265 : decode cX10_readsAct 265 = .ok (.aload_n 0, 1) := by decide +kernel
theorem dX10_readsAct_266 : decode cX10_readsAct 266 = .ok (.dup, 1) := by decide +kernel
theorem dX10_readsAct_267 : decode cX10_readsAct 267 = .ok (.getfield 39, 3) := by decide +kernel
theorem dX10_readsAct_270 : decode cX10_readsAct 270 = .ok (.iconst 1, 1) := by decide +kernel
theorem dX10_readsAct_271 : decode cX10_readsAct 271 = .ok (.iadd, 1) := by decide +kernel
theorem dX10_readsAct_272 : decode cX10_readsAct 272 = .ok (.putfield 39, 3) := by decide +kernel
theorem dX10_readsAct_275 : decode cX10_readsAct 275 = .ok (.aload_n 0, 1) := by decide +kernel
theorem dX10_readsAct_276 : decode cX10_readsAct 276 = .ok (.dup, 1) := by decide +kernel
theorem dX10_readsAct_277 : decode cX10_readsAct 277 = .ok (.getfield 271, 3) := by decide +kernel
theorem dX10_readsAct_280 : decode cX10_readsAct 280 = .ok (.iconst 1, 1) := by decide +kernel
theorem dX10_readsAct_281 : decode cX10_readsAct 281 = .ok (.iadd, 1) := by decide +kernel
theorem dX10_readsAct_282 : decode cX10_readsAct 282 = .ok (.putfield 271, 3) := by decide +kernel
theorem dX10_readsAct_285 : decode cX10_readsAct 285 = .ok (.iconst 1, 1) := by decide +kernel
theorem dX10_readsAct_286 : decode cX10_readsAct 286 = .ok (.ireturn, 1) := by decide +kernel
theorem dX10_does_0 : decode cX10_does 0 = .ok (.aload_n 0, 1) := by decide +kernel
theorem dX10_does_1 : decode cX10_does 1 = .ok (.getfield 268, 3) := by decide +kernel
theorem dX10_does_4 : decode cX10_does 4 = .ok (.iload_n 1, 1) := by decide +kernel
theorem dX10_does_5 : decode cX10_does 5 = .ok (.iaload, 1) := by decide +kernel
theorem dX10_does_6 : decode cX10_does 6 = .ok (.iconst 3, 1) := by decide +kernel
theorem dX10_does_7 : decode cX10_does 7 = .ok (.if_icmp .ne 64, 3) := by decide +kernel
theorem dX10_does_10 : decode cX10_does 10 = .ok (.iconst 0, 1) := by decide +kernel
theorem dX10_does_11 : decode cX10_does 11 = .ok (.istore_n 2, 1) := by decide +kernel
theorem dX10_does_12 : decode cX10_does 12 = .ok (.iload_n 2, 1) := by decide +kernel
theorem dX10_does_13 : decode cX10_does 13 = .ok (.aload_n 0, 1) := by decide +kernel
theorem dX10_does_14 : decode cX10_does 14 = .ok (.getfield 274, 3) := by decide +kernel
theorem dX10_does_17 : decode cX10_does 17 = .ok (.iload_n 1, 1) := by decide +kernel
theorem dX10_does_18 : decode cX10_does 18 = .ok (.iaload, 1) := by decide +kernel
theorem dX10_does_19 : decode cX10_does 19 = .ok (.if_icmp .ge 25, 3) := by decide +kernel
theorem dX10_does_22 : decode cX10_does 22 = .ok (.aload_n 0, 1) := by decide +kernel
theorem dX10_does_23 : decode cX10_does 23 = .ok (.aload_n 0, 1) := by decide +kernel
theorem dX10_does_24 : decode cX10_does 24 = .ok (.getfield 79, 3) := by decide +kernel
theorem dX10_does_27 : decode cX10_does 27 = .ok (.aload_n 0, 1) := by decide +kernel
theorem dX10_does_28 : decode cX10_does 28 = .ok (.getfield 79, 3) := by decide +kernel
theorem dX10_does_31 : decode cX10_does 31 = .ok (.bipush 30, 2) := by decide +kernel
theorem dX10_does_33 : decode cX10_does 33 = .ok (.iaload, 1) := by decide +kernel
theorem dX10_does_34 : decode cX10_does 34 = .ok (.invokevirtual 261, 3) := by decide +kernel
theorem dX10_does_37 : decode cX10_does 37 = .ok (.pop, 1) := by decide +kernel
theorem dX10_does_38 : decode cX10_does 38 = .ok (.iinc 2 1, 3) := by decide +kernel
theorem dX10_does_41 : decode cX10_does 41 = .ok (.goto (-29), 3) := by decide +kernel
theorem dX10_does_44 : decode cX10_does 44 = .ok (.aload_n 0, 1) := by decide +kernel
theorem dX10_does_45 : decode cX10_does 45 = .ok (.dup, 1) := by decide +kernel
theorem dX10_does_46 : decode cX10_does 46 = .ok (.getfield 283, 3) := by decide +kernel
theorem dX10_does_49 : decode cX10_does 49 = .ok (.aload_n 0, 1) := by decide +kernel
theorem dX10_does_50 : decode cX10_does 50 = .ok (.getfield 274, 3) := by decide +kernel
theorem dX10_does_53 : decode cX10_does 53 = .ok (.iload_n 1, 1) := by decide +kernel
theorem dX10_does_54 : decode cX10_does 54 = .ok (.iaload, 1) := by decide +kernel
theorem dX10_does_55 : decode cX10_does 55 = .ok (.iadd, 1) := by decide +kernel
theorem dX10_does_56 : decode cX10_does 56 = .ok (.putfield 283, 3) := by decide +kernel
theorem dX10_does_59 : decode cX10_does 59 = .ok (.aload_n 0, 1) := by decide +kernel
theorem dX10_does_60 : decode cX10_does 60 = .ok (.dup, 1) := by decide +kernel
theorem dX10_does_61 : decode cX10_does 61 = .ok (.getfield 286, 3) := by decide +kernel
theorem dX10_does_64 : decode cX10_does 64 = .ok (.iconst 1, 1) := by decide +kernel
theorem dX10_does_65 : decode cX10_does 65 = .ok (.iadd, 1) := by decide +kernel
theorem dX10_does_66 : decode cX10_does 66 = .ok (.putfield 286, 3) := by decide +kernel
theorem dX10_does_69 : decode cX10_does 69 = .ok (.iconst 1, 1) := by decide +kernel
theorem dX10_does_70 : decode cX10_does 70 = .ok (.ireturn, 1) := by decide +kernel
theorem dX10_does_71 : decode cX10_does 71 = .ok (.iconst 0, 1) := by decide +kernel
theorem dX10_does_72 : decode cX10_does 72 = .ok (.istore_n 2, 1) := by decide +kernel
theorem dX10_does_73 : decode cX10_does 73 = .ok (.iload_n 2, 1) := by decide +kernel
theorem dX10_does_74 : decode cX10_does 74 = .ok (.bipush 10, 2) := by decide +kernel
theorem dX10_does_76 : decode cX10_does 76 = .ok (.if_icmp .ge 212, 3) := by decide +kernel
theorem dX10_does_79 : decode cX10_does 79 = .ok (.aload_n 0, 1) := by decide +kernel
theorem dX10_does_80 : decode cX10_does 80 = .ok (.getfield 277, 3) := by decide +kernel
theorem dX10_does_83 : decode cX10_does 83 = .ok (.iload_n 1, 1) := by decide +kernel
theorem dX10_does_84 : decode cX10_does 84 = .ok (.iaload, 1) := by decide +kernel
theorem dX10_does_85 : decode cX10_does 85 = .ok (.iload_n 2, 1) := by decide +kernel
theorem dX10_does_86 : decode cX10_does 86 = .ok (.invokestatic 195, 3) := by decide +kernel
theorem dX10_does_89 : decode cX10_does 89 = .ok (.ifCond .ne 6, 3) := by decide +kernel
theorem dX10_does_92 : decode cX10_does 92 = .ok (.goto 190, 3) := by decide +kernel
theorem dX10_does_95 : decode cX10_does 95 = .ok (.aload_n 0, 1) := by decide +kernel
theorem dX10_does_96 : decode cX10_does 96 = .ok (.getfield 268, 3) := by decide +kernel
theorem dX10_does_99 : decode cX10_does 99 = .ok (.iload_n 1, 1) := by decide +kernel
theorem dX10_does_100 : decode cX10_does 100 = .ok (.iaload, 1) := by decide +kernel
theorem dX10_does_101 : decode cX10_does 101 = .ok (.ifCond .ne 11, 3) := by decide +kernel
theorem dX10_does_104 : decode cX10_does 104 = .ok (.aload_n 0, 1) := by decide +kernel
theorem dX10_does_105 : decode cX10_does 105 = .ok (.iload_n 2, 1) := by decide +kernel
theorem dX10_does_106 : decode cX10_does 106 = .ok (.invokevirtual 248, 3) := by decide +kernel
theorem dX10_does_109 : decode cX10_does 109 = .ok (.goto 56, 3) := by decide +kernel
theorem dX10_does_112 : decode cX10_does 112 = .ok (.aload_n 0, 1) := by decide +kernel
theorem dX10_does_113 : decode cX10_does 113 = .ok (.getfield 268, 3) := by decide +kernel
theorem dX10_does_116 : decode cX10_does 116 = .ok (.iload_n 1, 1) := by decide +kernel
theorem dX10_does_117 : decode cX10_does 117 = .ok (.iaload, 1) := by decide +kernel
theorem dX10_does_118 : decode cX10_does 118 = .ok (.iconst 1, 1) := by decide +kernel
theorem dX10_does_119 : decode cX10_does 119 = .ok (.if_icmp .ne 11, 3) := by decide +kernel
theorem dX10_does_122 : decode cX10_does 122 = .ok (.aload_n 0, 1) := by decide +kernel
theorem dX10_does_123 : decode cX10_does 123 = .ok (.iload_n 2, 1) := by decide +kernel
theorem dX10_does_124 : decode cX10_does 124 = .ok (.invokevirtual 258, 3) := by decide +kernel
theorem dX10_does_127 : decode cX10_does 127 = .ok (.goto 38, 3) := by decide +kernel
theorem dX10_does_130 : decode cX10_does 130 = .ok (.aload_n 0, 1) := by decide +kernel
theorem dX10_does_131 : decode cX10_does 131 = .ok (.iload_n 2, 1) := by decide +kernel
theorem dX10_does_132 : decode cX10_does 132 = .ok (.invokevirtual 226, 3) := by decide +kernel
theorem dX10_does_135 : decode cX10_does 135 = .ok (.ifCond .eq 29, 3) := by decide +kernel
theorem dX10_does_138 : decode cX10_does 138 = .ok (.aload_n 0, 1) := by decide +kernel
theorem dX10_does_139 : decode cX10_does 139 = .ok (.getfield 280, 3) := by decide +kernel
theorem dX10_does_142 : decode cX10_does 142 = .ok (.iload_n 1, 1) := by decide +kernel
theorem dX10_does_143 : decode cX10_does 143 = .ok (.iaload, 1) := by decide +kernel
theorem dX10_does_144 : decode cX10_does 144 = .ok (.ifCond .lt 16, 3) := by decide +kernel
theorem dX10_does_147 : decode cX10_does 147 = .ok (.aload_n 0, 1) := by decide +kernel
theorem dX10_does_148 : decode cX10_does 148 = .ok (.aload_n 0, 1) := by decide +kernel
theorem dX10_does_149 : decode cX10_does 149 = .ok (.getfield 280, 3) := by decide +kernel
theorem dX10_does_152 : decode cX10_does 152 = .ok (.iload_n 1, 1) := by decide +kernel
theorem dX10_does_153 : decode cX10_does 153 = .ok (.iaload, 1) := by decide +kernel
theorem dX10_does_154 : decode cX10_does 154 = .ok (.invokevirtual 95, 3) := by decide +kernel
theorem dX10_does_157 : decode cX10_does 157 = .ok (.ifCond .eq 7, 3) := by decide +kernel
theorem dX10_does_160 : decode cX10_does 160 = .ok (.iconst 1, 1) := by decide +kernel
theorem dX10_does_161 : decode cX10_does 161 = .ok (.goto 4, 3) := by decide +kernel
theorem dX10_does_164 : decode cX10_does 164 = .ok (.iconst 0, 1) := by decide +kernel
theorem dX10_does_165 : decode cX10_does 165 = .ok (.istore_n 3, 1) := by decide +kernel
theorem dX10_does_166 : decode cX10_does 166 = .ok (.iload_n 3, 1) := by decide +kernel
theorem dX10_does_167 : decode cX10_does 167 = .ok (.ifCond .ne 5, 3) := by decide +kernel
theorem dX10_does_170 : decode cX10_does 170 = .ok (.iconst 0, 1) := by decide +kernel
theorem dX10_does_171 : decode cX10_does 171 = .ok (.ireturn, 1) := by decide +kernel
theorem dX10_does_172 : decode cX10_does 172 = .ok (.aload_n 0, 1) := by decide +kernel
theorem dX10_does_173 : decode cX10_does 173 = .ok (.getfield 79, 3) := by decide +kernel
theorem dX10_does_176 : decode cX10_does 176 = .ok (.bipush 30, 2) := by decide +kernel
theorem dX10_does_178 : decode cX10_does 178 = .ok (.aload_n 0, 1) := by decide +kernel
theorem dX10_does_179 : decode cX10_does 179 = .ok (.getfield 268, 3) := by decide +kernel
theorem dX10_does_182 : decode cX10_does 182 = .ok (.iload_n 1, 1) := by decide +kernel
theorem dX10_does_183 : decode cX10_does 183 = .ok (.iaload, 1) := by decide +kernel
theorem dX10_does_184 : decode cX10_does 184 = .ok (.ifCond .ne 17, 3) := by decide +kernel
theorem dX10_does_187 : decode cX10_does 187 = .ok (.aload_n 0, 1) := by decide +kernel
theorem dX10_does_188 : decode cX10_does 188 = .ok (.getfield 79, 3) := by decide +kernel
theorem dX10_does_191 : decode cX10_does 191 = .ok (.bipush 30, 2) := by decide +kernel
theorem dX10_does_193 : decode cX10_does 193 = .ok (.iaload, 1) := by decide +kernel
theorem dX10_does_194 : decode cX10_does 194 = .ok (.iconst 1, 1) := by decide +kernel
theorem dX10_does_195 : decode cX10_does 195 = .ok (.iload_n 2, 1) := by decide +kernel
theorem dX10_does_196 : decode cX10_does 196 = .ok (.ishl, 1) := by decide +kernel
theorem dX10_does_197 : decode cX10_does 197 = .ok (.ior, 1) := by decide +kernel
theorem dX10_does_198 : decode cX10_does 198 = .ok (.goto 36, 3) := by decide +kernel
theorem dX10_does_201 : decode cX10_does 201 = .ok (.aload_n 0, 1) := by decide +kernel
theorem dX10_does_202 : decode cX10_does 202 = .ok (.getfield 268, 3) := by decide +kernel
theorem dX10_does_205 : decode cX10_does 205 = .ok (.iload_n 1, 1) := by decide +kernel
theorem dX10_does_206 : decode cX10_does 206 = .ok (.iaload, 1) := by decide +kernel
theorem dX10_does_207 : decode cX10_does 207 = .ok (.iconst 1, 1) := by decide +kernel
theorem dX10_does_208 : decode cX10_does 208 = .ok (.if_icmp .ne 19, 3) := by decide +kernel
theorem dX10_does_211 : decode cX10_does 211 = .ok (.aload_n 0, 1) := by decide +kernel
theorem dX10_does_212 : decode cX10_does 212 = .ok (.getfield 79, 3) := by decide +kernel
theorem dX10_does_215 : decode cX10_does 215 = .ok (.bipush 30, 2) := by decide +kernel
theorem dX10_does_217 : decode cX10_does 217 = .ok (.iaload, 1) := by decide +kernel
theorem dX10_does_218 : decode cX10_does 218 = .ok (.iconst 1, 1) := by decide +kernel
theorem dX10_does_219 : decode cX10_does 219 = .ok (.iload_n 2, 1) := by decide +kernel
theorem dX10_does_220 : decode cX10_does 220 = .ok (.ishl, 1) := by decide +kernel
theorem dX10_does_221 : decode cX10_does 221 = .ok (.iconst (-1), 1) := by decide +kernel
theorem dX10_does_222 : decode cX10_does 222 = .ok (.ixor, 1) := by decide +kernel
theorem dX10_does_223 : decode cX10_does 223 = .ok (.iand, 1) := by decide +kernel
theorem dX10_does_224 : decode cX10_does 224 = .ok (.goto 10, 3) := by decide +kernel
theorem dX10_does_227 : decode cX10_does 227 = .ok (.aload_n 0, 1) := by decide +kernel
theorem dX10_does_228 : decode cX10_does 228 = .ok (.getfield 79, 3) := by decide +kernel
theorem dX10_does_231 : decode cX10_does 231 = .ok (.bipush 30, 2) := by decide +kernel
theorem dX10_does_233 : decode cX10_does 233 = .ok (.iaload, 1) := by decide +kernel
theorem dX10_does_234 : decode cX10_does 234 = .ok (.iastore, 1) := by decide +kernel
theorem dX10_does_235 : decode cX10_does 235 = .ok (.aload_n 0, 1) := by decide +kernel
theorem dX10_does_236 : decode cX10_does 236 = .ok (.getfield 79, 3) := by decide +kernel
theorem dX10_does_239 : decode cX10_does 239 = .ok (.bipush 10, 2) := by decide +kernel
theorem dX10_does_241 : decode cX10_does 241 = .ok (.iload_n 2, 1) := by decide +kernel
theorem dX10_does_242 : decode cX10_does 242 = .ok (.iadd, 1) := by decide +kernel
theorem dX10_does_243 : decode cX10_does 243 = .ok (.aload_n 0, 1) := by decide +kernel
theorem dX10_does_244 : decode cX10_does 244 = .ok (.getfield 268, 3) := by decide +kernel
theorem dX10_does_247 : decode cX10_does 247 = .ok (.iload_n 1, 1) := by decide +kernel
theorem dX10_does_248 : decode cX10_does 248 = .ok (.iaload, 1) := by decide +kernel
theorem dX10_does_249 : decode cX10_does 249 = .ok (.iconst 2, 1) := by decide +kernel
theorem dX10_does_250 : decode cX10_does 250 = .ok (.if_icmp .ne 12, 3) := by decide +kernel
theorem dX10_does_253 : decode cX10_does 253 = .ok (.aload_n 0, 1) := by decide +kernel
theorem dX10_does_254 : decode cX10_does 254 = .ok (.getfield 280, 3) := by decide +kernel
theorem dX10_does_257 : decode cX10_does 257 = .ok (.iload_n 1, 1) := by decide +kernel
theorem dX10_does_258 : decode cX10_does 258 = .ok (.iaload, 1) := by decide +kernel
theorem dX10_does_259 : decode cX10_does 259 = .ok (.goto 12, 3) := by decide +kernel
theorem dX10_does_262 : decode cX10_does 262 = .ok (.aload_n 0, 1) := by decide +kernel
theorem dX10_does_263 : decode cX10_does 263 = .ok (.getfield 79, 3) := by decide +kernel
theorem dX10_does_266 : decode cX10_does 266 = .ok (.bipush 10, 2) := by decide +kernel
theorem dX10_does_268 : decode cX10_does 268 = .ok (.iload_n 2, 1) := by decide +kernel
theorem dX10_does_269 : decode cX10_does 269 = .ok (.iadd, 1) := by decide +kernel
theorem dX10_does_270 : decode cX10_does 270 = .ok (.iaload, 1) := by decide +kernel
theorem dX10_does_271 : decode cX10_does 271 = .ok (.iastore, 1) := by decide +kernel
theorem dX10_does_272 : decode cX10_does 272 = .ok (.aload_n 0, 1) := by decide +kernel
theorem dX10_does_273 : decode cX10_does 273 = .ok (.dup, 1) := by decide +kernel
theorem dX10_does_274 : decode cX10_does 274 = .ok (.getfield 286, 3) := by decide +kernel
theorem dX10_does_277 : decode cX10_does 277 = .ok (.iconst 1, 1) := by decide +kernel
theorem dX10_does_278 : decode cX10_does 278 = .ok (.iadd, 1) := by decide +kernel
theorem dX10_does_279 : decode cX10_does 279 = .ok (.putfield 286, 3) := by decide +kernel
theorem dX10_does_282 : decode cX10_does 282 = .ok (.iinc 2 1, 3) := by decide +kernel
theorem dX10_does_285 : decode cX10_does 285 = .ok (.goto (-212), 3) := by decide +kernel
theorem dX10_does_288 : decode cX10_does 288 = .ok (.iconst 1, 1) := by decide +kernel
theorem dX10_does_289 : decode cX10_does 289 = .ok (.ireturn, 1) := by decide +kernel
theorem dX10_day_0 : decode cX10_day 0 = .ok (.aload_n 0, 1) := by decide +kernel
theorem dX10_day_1 : decode cX10_day 1 = .ok (.iconst 0, 1) := by decide +kernel
theorem dX10_day_2 : decode cX10_day 2 = .ok (.putfield 3, 3) := by decide +kernel
theorem dX10_day_5 : decode cX10_day 5 = .ok (.aload_n 0, 1) := by decide +kernel
theorem dX10_day_6 : decode cX10_day 6 = .ok (.bipush 60, 2) := by decide +kernel
theorem dX10_day_8 : decode cX10_day 8 = .ok (.invokevirtual 120, 3) := by decide +kernel
theorem dX10_day_11 : decode cX10_day 11 = .ok (.istore_n 1, 1) := by decide +kernel
theorem dX10_day_12 : decode cX10_day 12 = .ok (.aload_n 0, 1) := by decide +kernel
theorem dX10_day_13 : decode cX10_day 13 = .ok (.iconst 0, 1) := by decide +kernel
theorem dX10_day_14 : decode cX10_day 14 = .ok (.putfield 271, 3) := by decide +kernel
theorem dX10_day_17 : decode cX10_day 17 = .ok (.iconst 1, 1) := by decide +kernel
theorem dX10_day_18 : decode cX10_day 18 = .ok (.istore_n 2, 1) := by decide +kernel
theorem dX10_day_19 : decode cX10_day 19 = .ok (.iload_n 1, 1) := by decide +kernel
theorem dX10_day_20 : decode cX10_day 20 = .ok (.ifCond .le 7, 3) := by decide +kernel
theorem dX10_day_23 : decode cX10_day 23 = .ok (.iconst 1, 1) := by decide +kernel
theorem dX10_day_24 : decode cX10_day 24 = .ok (.goto 4, 3) := by decide +kernel
theorem dX10_day_27 : decode cX10_day 27 = .ok (.iconst 0, 1) := by decide +kernel
theorem dX10_day_28 : decode cX10_day 28 = .ok (.istore_n 3, 1) := by decide +kernel
theorem dX10_day_29 : decode cX10_day 29 = .ok (.iload_n 3, 1) := by decide +kernel
theorem dX10_day_30 : decode cX10_day 30 = .ok (.ifCond .eq 30, 3) := by decide +kernel
theorem dX10_day_33 : decode cX10_day 33 = .ok (.aload_n 0, 1) := by decide +kernel
theorem dX10_day_34 : decode cX10_day 34 = .ok (.invokevirtual 289, 3) := by decide +kernel
theorem dX10_day_37 : decode cX10_day 37 = .ok (.istore_n 2, 1) := by decide +kernel
theorem dX10_day_38 : decode cX10_day 38 = .ok (.iload_n 2, 1) := by decide +kernel
theorem dX10_day_39 : decode cX10_day 39 = .ok (.ifCond .eq 16, 3) := by decide +kernel
theorem dX10_day_42 : decode cX10_day 42 = .ok (.aload_n 0, 1) := by decide +kernel
theorem dX10_day_43 : decode cX10_day 43 = .ok (.bipush 59, 2) := by decide +kernel
theorem dX10_day_45 : decode cX10_day 45 = .ok (.invokevirtual 108, 3) := by decide +kernel
theorem dX10_day_48 : decode cX10_day 48 = .ok (.ifCond .eq 7, 3) := by decide +kernel
theorem dX10_day_51 : decode cX10_day 51 = .ok (.iconst 1, 1) := by decide +kernel
theorem dX10_day_52 : decode cX10_day 52 = .ok (.goto 4, 3) := by decide +kernel
theorem dX10_day_55 : decode cX10_day 55 = .ok (.iconst 0, 1) := by decide +kernel
theorem dX10_day_56 : decode cX10_day 56 = .ok (.istore_n 3, 1) := by decide +kernel
theorem dX10_day_57 : decode cX10_day 57 = .ok (.goto (-28), 3) := by decide +kernel
theorem dX10_day_60 : decode cX10_day 60 = .ok (.aload_n 0, 1) := by decide +kernel
theorem dX10_day_61 : decode cX10_day 61 = .ok (.iload_n 1, 1) := by decide +kernel
theorem dX10_day_62 : decode cX10_day 62 = .ok (.bipush 60, 2) := by decide +kernel
theorem dX10_day_64 : decode cX10_day 64 = .ok (.iload_n 2, 1) := by decide +kernel
theorem dX10_day_65 : decode cX10_day 65 = .ok (.invokevirtual 127, 3) := by decide +kernel
theorem dX10_day_68 : decode cX10_day 68 = .ok (.istore 4, 2) := by decide +kernel
theorem dX10_day_70 : decode cX10_day 70 = .ok (.iload 4, 2) := by decide +kernel
theorem dX10_day_72 : decode cX10_day 72 = .ok (.ifCond .ge 6, 3) := by decide +kernel
theorem dX10_day_75 : decode cX10_day 75 = .ok (.iload 4, 2) := by decide +kernel
theorem dX10_day_77 : decode cX10_day 77 = .ok (.ireturn, 1) := by decide +kernel
theorem dX10_day_78 : decode cX10_day 78 = .ok (.aload_n 0, 1) := by decide +kernel
theorem dX10_day_79 : decode cX10_day 79 = .ok (.invokevirtual 251, 3) := by decide +kernel
theorem dX10_day_82 : decode cX10_day 82 = .ok (.aload_n 0, 1) := by decide +kernel
theorem dX10_day_83 : decode cX10_day 83 = .ok (.iconst 0, 1) := by decide +kernel
theorem dX10_day_84 : decode cX10_day 84 = .ok (.putfield 286, 3) := by decide +kernel
theorem dX10_day_87 : decode cX10_day 87 = .ok (.aload_n 0, 1) := by decide +kernel
theorem dX10_day_88 : decode cX10_day 88 = .ok (.iconst 0, 1) := by decide +kernel
theorem dX10_day_89 : decode cX10_day 89 = .ok (.putfield 283, 3) := by decide +kernel
theorem dX10_day_92 : decode cX10_day 92 = .ok (.iconst 0, 1) := by decide +kernel
theorem dX10_day_93 : decode cX10_day 93 = .ok (.istore 5, 2) := by decide +kernel
theorem dX10_day_95 : decode cX10_day 95 = .ok (.iload 5, 2) := by decide +kernel
theorem dX10_day_97 : decode cX10_day 97 = .ok (.aload_n 0, 1) := by decide +kernel
theorem dX10_day_98 : decode cX10_day 98 = .ok (.getfield 271, 3) := by decide +kernel
theorem dX10_day_101 : decode cX10_day 101 = .ok (.if_icmp .ge 18, 3) := by decide +kernel
theorem dX10_day_104 : decode cX10_day 104 = .ok (.aload_n 0, 1) := by decide +kernel
theorem dX10_day_105 : decode cX10_day 105 = .ok (.iload 5, 2) := by decide +kernel
theorem dX10_day_107 : decode cX10_day 107 = .ok (.invokevirtual 292, 3) := by decide +kernel
theorem dX10_day_110 : decode cX10_day 110 = .ok (.ifCond .eq 9, 3) := by decide +kernel
theorem dX10_day_113 : decode cX10_day 113 = .ok (.iinc 5 1, 3) := by decide +kernel
theorem dX10_day_116 : decode cX10_day 116 = .ok (.goto (-21), 3) := by decide +kernel
theorem dX10_day_119 : decode cX10_day 119 = .ok (.aload_n 0, 1) := by decide +kernel
theorem dX10_day_120 : decode cX10_day 120 = .ok (.getfield 286, 3) := by decide +kernel
theorem dX10_day_123 : decode cX10_day 123 = .ok (.ifCond .le 7, 3) := by decide +kernel
theorem dX10_day_126 : decode cX10_day 126 = .ok (.aload_n 0, 1) := by decide +kernel
theorem dX10_day_127 : decode cX10_day 127 = .ok (.invokevirtual 255, 3) := by decide +kernel
theorem dX10_day_130 : decode cX10_day 130 = .ok (.aload_n 0, 1) := by decide +kernel
theorem dX10_day_131 : decode cX10_day 131 = .ok (.iconst 0, 1) := by decide +kernel
theorem dX10_day_132 : decode cX10_day 132 = .ok (.putfield 15, 3) := by decide +kernel
theorem dX10_day_135 : decode cX10_day 135 = .ok (.aload_n 0, 1) := by decide +kernel
theorem dX10_day_136 : decode cX10_day 136 = .ok (.aload_n 0, 1) := by decide +kernel
theorem dX10_day_137 : decode cX10_day 137 = .ok (.getfield 283, 3) := by decide +kernel
theorem dX10_day_140 : decode cX10_day 140 = .ok (.i2l, 1) := by decide +kernel
theorem dX10_day_141 : decode cX10_day 141 = .ok (.invokevirtual 18, 3) := by decide +kernel
theorem dX10_day_144 : decode cX10_day 144 = .ok (.aload_n 0, 1) := by decide +kernel
theorem dX10_day_145 : decode cX10_day 145 = .ok (.iload 5, 2) := by decide +kernel
theorem dX10_day_147 : decode cX10_day 147 = .ok (.aload_n 0, 1) := by decide +kernel
theorem dX10_day_148 : decode cX10_day 148 = .ok (.getfield 271, 3) := by decide +kernel
theorem dX10_day_151 : decode cX10_day 151 = .ok (.if_icmp .ge 7, 3) := by decide +kernel
theorem dX10_day_154 : decode cX10_day 154 = .ok (.iconst 1, 1) := by decide +kernel
theorem dX10_day_155 : decode cX10_day 155 = .ok (.goto 4, 3) := by decide +kernel
theorem dX10_day_158 : decode cX10_day 158 = .ok (.iconst 0, 1) := by decide +kernel
theorem dX10_day_159 : decode cX10_day 159 = .ok (.invokestatic 54, 3) := by decide +kernel
theorem dX10_day_162 : decode cX10_day 162 = .ok (.i2l, 1) := by decide +kernel
theorem dX10_day_163 : decode cX10_day 163 = .ok (.invokevirtual 18, 3) := by decide +kernel
theorem dX10_day_166 : decode cX10_day 166 = .ok (.iload 5, 2) := by decide +kernel
theorem dX10_day_168 : decode cX10_day 168 = .ok (.ireturn, 1) := by decide +kernel
theorem dX10_stop_0 : decode cX10_stop 0 = .ok (.aload_n 0, 1) := by decide +kernel
theorem dX10_stop_1 : decode cX10_stop 1 = .ok (.iconst 0, 1) := by decide +kernel
theorem dX10_stop_2 : decode cX10_stop 2 = .ok (.putfield 3, 3) := by decide +kernel
theorem dX10_stop_5 : decode cX10_stop 5 = .ok (.aload_n 0, 1) := by decide +kernel
theorem dX10_stop_6 : decode cX10_stop 6 = .ok (.aload_n 0, 1) := by decide +kernel
theorem dX10_stop_7 : decode cX10_stop 7 = .ok (.getfield 79, 3) := by decide +kernel
theorem dX10_stop_10 : decode cX10_stop 10 = .ok (.aload_n 0, 1) := by decide +kernel
theorem dX10_stop_11 : decode cX10_stop 11 = .ok (.getfield 79, 3) := by decide +kernel
theorem dX10_stop_14 : decode cX10_stop 14 = .ok (.bipush 30, 2) := by decide +kernel
theorem dX10_stop_16 : decode cX10_stop 16 = .ok (.iaload, 1) := by decide +kernel
theorem dX10_stop_17 : decode cX10_stop 17 = .ok (.invokevirtual 222, 3) := by decide +kernel
theorem dX10_stop_20 : decode cX10_stop 20 = .ok (.ireturn, 1) := by decide +kernel
theorem dX10_goes_0 : decode cX10_goes 0 = .ok (.aload_n 0, 1) := by decide +kernel
theorem dX10_goes_1 : decode cX10_goes 1 = .ok (.iconst 0, 1) := by decide +kernel
theorem dX10_goes_2 : decode cX10_goes 2 = .ok (.putfield 3, 3) := by decide +kernel
theorem dX10_goes_5 : decode cX10_goes 5 = .ok (.iload_n 1, 1) := by decide +kernel
theorem dX10_goes_6 : decode cX10_goes 6 = .ok (.aload_n 0, 1) := by decide +kernel
theorem dX10_goes_7 : decode cX10_goes 7 = .ok (.aload_n 0, 1) := by decide +kernel
theorem dX10_goes_8 : decode cX10_goes 8 = .ok (.getfield 79, 3) := by decide +kernel
theorem dX10_goes_11 : decode cX10_goes 11 = .ok (.invokevirtual 295, 3) := by decide +kernel
theorem dX10_goes_14 : decode cX10_goes 14 = .ok (.iconst (-1), 1) := by decide +kernel
theorem dX10_goes_15 : decode cX10_goes 15 = .ok (.ixor, 1) := by decide +kernel
theorem dX10_goes_16 : decode cX10_goes 16 = .ok (.iand, 1) := by decide +kernel
theorem dX10_goes_17 : decode cX10_goes 17 = .ok (.ifCond .eq 6, 3) := by decide +kernel
theorem dX10_goes_20 : decode cX10_goes 20 = .ok (.bipush (-2), 2) := by decide +kernel
theorem dX10_goes_22 : decode cX10_goes 22 = .ok (.ireturn, 1) := by decide +kernel
theorem dX10_goes_23 : decode cX10_goes 23 = .ok (.aload_n 0, 1) := by decide +kernel
theorem dX10_goes_24 : decode cX10_goes 24 = .ok (.aload_n 0, 1) := by decide +kernel
theorem dX10_goes_25 : decode cX10_goes 25 = .ok (.getfield 79, 3) := by decide +kernel
theorem dX10_goes_28 : decode cX10_goes 28 = .ok (.iload_n 1, 1) := by decide +kernel
theorem dX10_goes_29 : decode cX10_goes 29 = .ok (.invokevirtual 222, 3) := by decide +kernel
theorem dX10_goes_32 : decode cX10_goes 32 = .ok (.istore_n 2, 1) := by decide +kernel
theorem dX10_goes_33 : decode cX10_goes 33 = .ok (.aload_n 0, 1) := by decide +kernel
theorem dX10_goes_34 : decode cX10_goes 34 = .ok (.iconst 0, 1) := by decide +kernel
theorem dX10_goes_35 : decode cX10_goes 35 = .ok (.putfield 15, 3) := by decide +kernel
theorem dX10_goes_38 : decode cX10_goes 38 = .ok (.iconst 0, 1) := by decide +kernel
theorem dX10_goes_39 : decode cX10_goes 39 = .ok (.istore_n 3, 1) := by decide +kernel
theorem dX10_goes_40 : decode cX10_goes 40 = .ok (.iload_n 3, 1) := by decide +kernel
theorem dX10_goes_41 : decode cX10_goes 41 = .ok (.aload_n 0, 1) := by decide +kernel
theorem dX10_goes_42 : decode cX10_goes 42 = .ok (.getfield 22, 3) := by decide +kernel
theorem dX10_goes_45 : decode cX10_goes 45 = .ok (.if_icmp .ge 19, 3) := by decide +kernel
theorem dX10_goes_48 : decode cX10_goes 48 = .ok (.aload_n 0, 1) := by decide +kernel
theorem dX10_goes_49 : decode cX10_goes 49 = .ok (.aload_n 0, 1) := by decide +kernel
theorem dX10_goes_50 : decode cX10_goes 50 = .ok (.iload_n 3, 1) := by decide +kernel
theorem dX10_goes_51 : decode cX10_goes 51 = .ok (.invokevirtual 212, 3) := by decide +kernel
theorem dX10_goes_54 : decode cX10_goes 54 = .ok (.i2l, 1) := by decide +kernel
theorem dX10_goes_55 : decode cX10_goes 55 = .ok (.invokevirtual 18, 3) := by decide +kernel
theorem dX10_goes_58 : decode cX10_goes 58 = .ok (.iinc 3 1, 3) := by decide +kernel
theorem dX10_goes_61 : decode cX10_goes 61 = .ok (.goto (-21), 3) := by decide +kernel
theorem dX10_goes_64 : decode cX10_goes 64 = .ok (.iload_n 2, 1) := by decide +kernel
theorem dX10_goes_65 : decode cX10_goes 65 = .ok (.ireturn, 1) := by decide +kernel
theorem dX10_worthOf_0 : decode cX10_worthOf 0 = .ok (.aload_n 0, 1) := by decide +kernel
theorem dX10_worthOf_1 : decode cX10_worthOf 1 = .ok (.iconst 0, 1) := by decide +kernel
theorem dX10_worthOf_2 : decode cX10_worthOf 2 = .ok (.putfield 3, 3) := by decide +kernel
theorem dX10_worthOf_5 : decode cX10_worthOf 5 = .ok (.aload_n 0, 1) := by decide +kernel
theorem dX10_worthOf_6 : decode cX10_worthOf 6 = .ok (.iload_n 1, 1) := by decide +kernel
theorem dX10_worthOf_7 : decode cX10_worthOf 7 = .ok (.invokevirtual 95, 3) := by decide +kernel
theorem dX10_worthOf_10 : decode cX10_worthOf 10 = .ok (.ifCond .ne 8, 3) := by decide +kernel
theorem dX10_worthOf_13 : decode cX10_worthOf 13 = .ok (.aload_n 0, 1) := by decide +kernel
theorem dX10_worthOf_14 : decode cX10_worthOf 14 = .ok (.invokevirtual 231, 3) := by decide +kernel
theorem dX10_worthOf_17 : decode cX10_worthOf 17 = .ok (.ireturn, 1) := by decide +kernel
theorem dX10_worthOf_18 : decode cX10_worthOf 18 = .ok (.aload_n 0, 1) := by decide +kernel
theorem dX10_worthOf_19 : decode cX10_worthOf 19 = .ok (.aload_n 0, 1) := by decide +kernel
theorem dX10_worthOf_20 : decode cX10_worthOf 20 = .ok (.getfield 79, 3) := by decide +kernel
theorem dX10_worthOf_23 : decode cX10_worthOf 23 = .ok (.aload_n 0, 1) := by decide +kernel
theorem dX10_worthOf_24 : decode cX10_worthOf 24 = .ok (.getfield 79, 3) := by decide +kernel
theorem dX10_worthOf_27 : decode cX10_worthOf 27 = .ok (.bipush 30, 2) := by decide +kernel
theorem dX10_worthOf_29 : decode cX10_worthOf 29 = .ok (.iaload, 1) := by decide +kernel
theorem dX10_worthOf_30 : decode cX10_worthOf 30 = .ok (.invokevirtual 215, 3) := by decide +kernel
theorem dX10_worthOf_33 : decode cX10_worthOf 33 = .ok (.aload_n 0, 1) := by decide +kernel
theorem dX10_worthOf_34 : decode cX10_worthOf 34 = .ok (.iload_n 1, 1) := by decide +kernel
theorem dX10_worthOf_35 : decode cX10_worthOf 35 = .ok (.invokevirtual 212, 3) := by decide +kernel
theorem dX10_worthOf_38 : decode cX10_worthOf 38 = .ok (.ireturn, 1) := by decide +kernel
theorem dX10_can_0 : decode cX10_can 0 = .ok (.aload_n 0, 1) := by decide +kernel
theorem dX10_can_1 : decode cX10_can 1 = .ok (.iconst 0, 1) := by decide +kernel
theorem dX10_can_2 : decode cX10_can 2 = .ok (.putfield 3, 3) := by decide +kernel
theorem dX10_can_5 : decode cX10_can 5 = .ok (.iconst 0, 1) := by decide +kernel
theorem dX10_can_6 : decode cX10_can 6 = .ok (.istore_n 1, 1) := by decide +kernel
theorem dX10_can_7 : decode cX10_can 7 = .ok (.iload_n 1, 1) := by decide +kernel
theorem dX10_can_8 : decode cX10_can 8 = .ok (.bipush 9, 2) := by decide +kernel
theorem dX10_can_10 : decode cX10_can 10 = .ok (.if_icmp .ge 16, 3) := by decide +kernel
theorem dX10_can_13 : decode cX10_can 13 = .ok (.aload_n 0, 1) := by decide +kernel
theorem dX10_can_14 : decode cX10_can 14 = .ok (.getfield 299, 3) := by decide +kernel
theorem dX10_can_17 : decode cX10_can 17 = .ok (.iload_n 1, 1) := by decide +kernel
theorem dX10_can_18 : decode cX10_can 18 = .ok (.iconst 0, 1) := by decide +kernel
theorem dX10_can_19 : decode cX10_can 19 = .ok (.iastore, 1) := by decide +kernel
theorem dX10_can_20 : decode cX10_can 20 = .ok (.iinc 1 1, 3) := by decide +kernel
theorem dX10_can_23 : decode cX10_can 23 = .ok (.goto (-16), 3) := by decide +kernel
theorem dX10_can_26 : decode cX10_can 26 = .ok (.aload_n 0, 1) := by decide +kernel
theorem dX10_can_27 : decode cX10_can 27 = .ok (.aload_n 0, 1) := by decide +kernel
theorem dX10_can_28 : decode cX10_can 28 = .ok (.getfield 79, 3) := by decide +kernel
theorem dX10_can_31 : decode cX10_can 31 = .ok (.invokevirtual 295, 3) := by decide +kernel
theorem dX10_can_34 : decode cX10_can 34 = .ok (.istore_n 1, 1) := by decide +kernel
theorem dX10_can_35 : decode cX10_can 35 = .ok (.iconst 0, 1) := by decide +kernel
theorem dX10_can_36 : decode cX10_can 36 = .ok (.istore_n 2, 1) := by decide +kernel
theorem dX10_can_37 : decode cX10_can 37 = .ok (.iload_n 2, 1) := by decide +kernel
theorem dX10_can_38 : decode cX10_can 38 = .ok (.iconst 1, 1) := by decide +kernel
theorem dX10_can_39 : decode cX10_can 39 = .ok (.aload_n 0, 1) := by decide +kernel
theorem dX10_can_40 : decode cX10_can 40 = .ok (.getfield 29, 3) := by decide +kernel
theorem dX10_can_43 : decode cX10_can 43 = .ok (.ishl, 1) := by decide +kernel
theorem dX10_can_44 : decode cX10_can 44 = .ok (.if_icmp .ge 35, 3) := by decide +kernel
theorem dX10_can_47 : decode cX10_can 47 = .ok (.iload_n 2, 1) := by decide +kernel
theorem dX10_can_48 : decode cX10_can 48 = .ok (.iload_n 1, 1) := by decide +kernel
theorem dX10_can_49 : decode cX10_can 49 = .ok (.iconst (-1), 1) := by decide +kernel
theorem dX10_can_50 : decode cX10_can 50 = .ok (.ixor, 1) := by decide +kernel
theorem dX10_can_51 : decode cX10_can 51 = .ok (.iand, 1) := by decide +kernel
theorem dX10_can_52 : decode cX10_can 52 = .ok (.ifCond .ne 21, 3) := by decide +kernel
theorem dX10_can_55 : decode cX10_can 55 = .ok (.aload_n 0, 1) := by decide +kernel
theorem dX10_can_56 : decode cX10_can 56 = .ok (.getfield 299, 3) := by decide +kernel
theorem dX10_can_59 : decode cX10_can 59 = .ok (.aload_n 0, 1) := by decide +kernel
theorem dX10_can_60 : decode cX10_can 60 = .ok (.aload_n 0, 1) := by decide +kernel
theorem dX10_can_61 : decode cX10_can 61 = .ok (.getfield 79, 3) := by decide +kernel
theorem dX10_can_64 : decode cX10_can 64 = .ok (.iload_n 2, 1) := by decide +kernel
theorem dX10_can_65 : decode cX10_can 65 = .ok (.invokevirtual 222, 3) := by decide +kernel
theorem dX10_can_68 : decode cX10_can 68 = .ok (.dup2, 1) := by decide +kernel
theorem dX10_can_69 : decode cX10_can 69 = .ok (.iaload, 1) := by decide +kernel
theorem dX10_can_70 : decode cX10_can 70 = .ok (.iconst 1, 1) := by decide +kernel
theorem dX10_can_71 : decode cX10_can 71 = .ok (.iadd, 1) := by decide +kernel
theorem dX10_can_72 : decode cX10_can 72 = .ok (.iastore, 1) := by decide +kernel
theorem dX10_can_73 : decode cX10_can 73 = .ok (.iinc 2 1, 3) := by decide +kernel
theorem dX10_can_76 : decode cX10_can 76 = .ok (.goto (-39), 3) := by decide +kernel
theorem dX10_can_79 : decode cX10_can 79 = .ok (.iconst 0, 1) := by decide +kernel
theorem dX10_can_80 : decode cX10_can 80 = .ok (.istore_n 2, 1) := by decide +kernel
theorem dX10_can_81 : decode cX10_can 81 = .ok (.aload_n 0, 1) := by decide +kernel
theorem dX10_can_82 : decode cX10_can 82 = .ok (.iconst 0, 1) := by decide +kernel
theorem dX10_can_83 : decode cX10_can 83 = .ok (.putfield 15, 3) := by decide +kernel
theorem dX10_can_86 : decode cX10_can 86 = .ok (.iconst 0, 1) := by decide +kernel
theorem dX10_can_87 : decode cX10_can 87 = .ok (.istore_n 3, 1) := by decide +kernel
theorem dX10_can_88 : decode cX10_can 88 = .ok (.iload_n 3, 1) := by decide +kernel
theorem dX10_can_89 : decode cX10_can 89 = .ok (.aload_n 0, 1) := by decide +kernel
theorem dX10_can_90 : decode cX10_can 90 = .ok (.getfield 22, 3) := by decide +kernel
theorem dX10_can_93 : decode cX10_can 93 = .ok (.if_icmp .ge 39, 3) := by decide +kernel
theorem dX10_can_96 : decode cX10_can 96 = .ok (.aload_n 0, 1) := by decide +kernel
theorem dX10_can_97 : decode cX10_can 97 = .ok (.aload_n 0, 1) := by decide +kernel
theorem dX10_can_98 : decode cX10_can 98 = .ok (.getfield 299, 3) := by decide +kernel
theorem dX10_can_101 : decode cX10_can 101 = .ok (.iload_n 3, 1) := by decide +kernel
theorem dX10_can_102 : decode cX10_can 102 = .ok (.iaload, 1) := by decide +kernel
theorem dX10_can_103 : decode cX10_can 103 = .ok (.i2l, 1) := by decide +kernel
theorem dX10_can_104 : decode cX10_can 104 = .ok (.invokevirtual 18, 3) := by decide +kernel
theorem dX10_can_107 : decode cX10_can 107 = .ok (.iload_n 2, 1) := by decide +kernel
theorem dX10_can_108 : decode cX10_can 108 = .ok (.aload_n 0, 1) := by decide +kernel
theorem dX10_can_109 : decode cX10_can 109 = .ok (.getfield 299, 3) := by decide +kernel
theorem dX10_can_112 : decode cX10_can 112 = .ok (.iload_n 3, 1) := by decide +kernel
theorem dX10_can_113 : decode cX10_can 113 = .ok (.iaload, 1) := by decide +kernel
theorem dX10_can_114 : decode cX10_can 114 = .ok (.ifCond .le 9, 3) := by decide +kernel
theorem dX10_can_117 : decode cX10_can 117 = .ok (.iconst 1, 1) := by decide +kernel
theorem dX10_can_118 : decode cX10_can 118 = .ok (.iload_n 3, 1) := by decide +kernel
theorem dX10_can_119 : decode cX10_can 119 = .ok (.ishl, 1) := by decide +kernel
theorem dX10_can_120 : decode cX10_can 120 = .ok (.goto 4, 3) := by decide +kernel
theorem dX10_can_123 : decode cX10_can 123 = .ok (.iconst 0, 1) := by decide +kernel
theorem dX10_can_124 : decode cX10_can 124 = .ok (.ior, 1) := by decide +kernel
theorem dX10_can_125 : decode cX10_can 125 = .ok (.istore_n 2, 1) := by decide +kernel
theorem dX10_can_126 : decode cX10_can 126 = .ok (.iinc 3 1, 3) := by decide +kernel
theorem dX10_can_129 : decode cX10_can 129 = .ok (.goto (-41), 3) := by decide +kernel
theorem dX10_can_132 : decode cX10_can 132 = .ok (.iload_n 2, 1) := by decide +kernel
theorem dX10_can_133 : decode cX10_can 133 = .ok (.ireturn, 1) := by decide +kernel
theorem dX10_fewestOf_0 : decode cX10_fewestOf 0 = .ok (.iconst (-1), 1) := by decide +kernel
theorem dX10_fewestOf_1 : decode cX10_fewestOf 1 = .ok (.istore_n 3, 1) := by decide +kernel
theorem dX10_fewestOf_2 : decode cX10_fewestOf 2 = .ok (.iconst 0, 1) := by decide +kernel
theorem dX10_fewestOf_3 : decode cX10_fewestOf 3 = .ok (.istore 4, 2) := by decide +kernel
theorem dX10_fewestOf_5 : decode cX10_fewestOf 5 = .ok (.iload 4, 2) := by decide +kernel
theorem dX10_fewestOf_7 : decode cX10_fewestOf 7 = .ok (.iconst 1, 1) := by decide +kernel
theorem dX10_fewestOf_8 : decode cX10_fewestOf 8 = .ok (.aload_n 0, 1) := by decide +kernel
theorem dX10_fewestOf_9 : decode cX10_fewestOf 9 = .ok (.getfield 29, 3) := by decide +kernel
theorem dX10_fewestOf_12 : decode cX10_fewestOf 12 = .ok (.ishl, 1) := by decide +kernel
theorem dX10_fewestOf_13 : decode cX10_fewestOf 13 = .ok (.if_icmp .ge 75, 3) := by decide +kernel
theorem dX10_fewestOf_16 : decode cX10_fewestOf 16 = .ok (.iload 4, 2) := by decide +kernel
theorem dX10_fewestOf_18 : decode cX10_fewestOf 18 = .ok (.iload_n 1, 1) := by decide +kernel
theorem dX10_fewestOf_19 : decode cX10_fewestOf 19 = .ok (.iconst (-1), 1) := by decide +kernel
theorem dX10_fewestOf_20 : decode cX10_fewestOf 20 = .ok (.ixor, 1) := by decide +kernel
theorem dX10_fewestOf_21 : decode cX10_fewestOf 21 = .ok (.iand, 1) := by decide +kernel
theorem dX10_fewestOf_22 : decode cX10_fewestOf 22 = .ok (.ifCond .ne 23, 3) := by decide +kernel
theorem dX10_fewestOf_25 : decode cX10_fewestOf 25 = .ok (.iload_n 3, 1) := by decide +kernel
theorem dX10_fewestOf_26 : decode cX10_fewestOf 26 = .ok (.ifCond .lt 15, 3) := by decide +kernel
theorem dX10_fewestOf_29 : decode cX10_fewestOf 29 = .ok (.iload 4, 2) := by decide +kernel
theorem dX10_fewestOf_31 : decode cX10_fewestOf 31 = .ok (.invokestatic 175, 3) := by decide +kernel
theorem dX10_fewestOf_34 : decode cX10_fewestOf 34 = .ok (.iload_n 3, 1) := by decide +kernel
theorem dX10_fewestOf_35 : decode cX10_fewestOf 35 = .ok (.invokestatic 175, 3) := by decide +kernel
theorem dX10_fewestOf_38 : decode cX10_fewestOf 38 = .ok (.if_icmp .ge 7, 3) := by decide +kernel
theorem dX10_fewestOf_41 : decode cX10_fewestOf 41 = .ok (.iconst 1, 1) := by decide +kernel
theorem dX10_fewestOf_42 : decode cX10_fewestOf 42 = .ok (.goto 4, 3) := by decide +kernel
theorem dX10_fewestOf_45 : decode cX10_fewestOf 45 = .ok (.iconst 0, 1) := by decide +kernel
theorem dX10_fewestOf_46 : decode cX10_fewestOf 46 = .ok (.istore 5, 2) := by decide +kernel
theorem dX10_fewestOf_48 : decode cX10_fewestOf 48 = .ok (.iload 5, 2) := by decide +kernel
theorem dX10_fewestOf_50 : decode cX10_fewestOf 50 = .ok (.ifCond .eq 30, 3) := by decide +kernel
theorem dX10_fewestOf_53 : decode cX10_fewestOf 53 = .ok (.aload_n 0, 1) := by decide +kernel
theorem dX10_fewestOf_54 : decode cX10_fewestOf 54 = .ok (.aload_n 0, 1) := by decide +kernel
theorem dX10_fewestOf_55 : decode cX10_fewestOf 55 = .ok (.getfield 79, 3) := by decide +kernel
theorem dX10_fewestOf_58 : decode cX10_fewestOf 58 = .ok (.aload_n 0, 1) := by decide +kernel
theorem dX10_fewestOf_59 : decode cX10_fewestOf 59 = .ok (.getfield 79, 3) := by decide +kernel
theorem dX10_fewestOf_62 : decode cX10_fewestOf 62 = .ok (.bipush 30, 2) := by decide +kernel
theorem dX10_fewestOf_64 : decode cX10_fewestOf 64 = .ok (.iaload, 1) := by decide +kernel
theorem dX10_fewestOf_65 : decode cX10_fewestOf 65 = .ok (.iload 4, 2) := by decide +kernel
theorem dX10_fewestOf_67 : decode cX10_fewestOf 67 = .ok (.ixor, 1) := by decide +kernel
theorem dX10_fewestOf_68 : decode cX10_fewestOf 68 = .ok (.invokevirtual 222, 3) := by decide +kernel
theorem dX10_fewestOf_71 : decode cX10_fewestOf 71 = .ok (.iload_n 2, 1) := by decide +kernel
theorem dX10_fewestOf_72 : decode cX10_fewestOf 72 = .ok (.if_icmp .ne 8, 3) := by decide +kernel
theorem dX10_fewestOf_75 : decode cX10_fewestOf 75 = .ok (.iload 4, 2) := by decide +kernel
theorem dX10_fewestOf_77 : decode cX10_fewestOf 77 = .ok (.goto 4, 3) := by decide +kernel
theorem dX10_fewestOf_80 : decode cX10_fewestOf 80 = .ok (.iload_n 3, 1) := by decide +kernel
theorem dX10_fewestOf_81 : decode cX10_fewestOf 81 = .ok (.istore_n 3, 1) := by decide +kernel
theorem dX10_fewestOf_82 : decode cX10_fewestOf 82 = .ok (.iinc 4 1, 3) := by decide +kernel
theorem dX10_fewestOf_85 : decode cX10_fewestOf 85 = .ok (.goto (-80), 3) := by decide +kernel
theorem dX10_fewestOf_88 : decode cX10_fewestOf 88 = .ok (.iload_n 3, 1) := by decide +kernel
theorem dX10_fewestOf_89 : decode cX10_fewestOf 89 = .ok (.ifCond .ge 6, 3) := by decide +kernel
theorem dX10_fewestOf_92 : decode cX10_fewestOf 92 = .ok (.bipush (-2), 2) := by decide +kernel
theorem dX10_fewestOf_94 : decode cX10_fewestOf 94 = .ok (.ireturn, 1) := by decide +kernel
theorem dX10_fewestOf_95 : decode cX10_fewestOf 95 = .ok (.aload_n 0, 1) := by decide +kernel
theorem dX10_fewestOf_96 : decode cX10_fewestOf 96 = .ok (.iconst 0, 1) := by decide +kernel
theorem dX10_fewestOf_97 : decode cX10_fewestOf 97 = .ok (.putfield 15, 3) := by decide +kernel
theorem dX10_fewestOf_100 : decode cX10_fewestOf 100 = .ok (.aload_n 0, 1) := by decide +kernel
theorem dX10_fewestOf_101 : decode cX10_fewestOf 101 = .ok (.iload_n 3, 1) := by decide +kernel
theorem dX10_fewestOf_102 : decode cX10_fewestOf 102 = .ok (.i2l, 1) := by decide +kernel
theorem dX10_fewestOf_103 : decode cX10_fewestOf 103 = .ok (.invokevirtual 18, 3) := by decide +kernel
theorem dX10_fewestOf_106 : decode cX10_fewestOf 106 = .ok (.iload_n 3, 1) := by decide +kernel
theorem dX10_fewestOf_107 : decode cX10_fewestOf 107 = .ok (.invokestatic 175, 3) := by decide +kernel
theorem dX10_fewestOf_110 : decode cX10_fewestOf 110 = .ok (.ireturn, 1) := by decide +kernel
theorem dX10_along_0 : decode cX10_along 0 = .ok (.aload_n 0, 1) := by decide +kernel
theorem dX10_along_1 : decode cX10_along 1 = .ok (.iconst 0, 1) := by decide +kernel
theorem dX10_along_2 : decode cX10_along 2 = .ok (.putfield 3, 3) := by decide +kernel
theorem dX10_along_5 : decode cX10_along 5 = .ok (.aload_n 0, 1) := by decide +kernel
theorem dX10_along_6 : decode cX10_along 6 = .ok (.iload_n 1, 1) := by decide +kernel
theorem dX10_along_7 : decode cX10_along 7 = .ok (.invokevirtual 95, 3) := by decide +kernel
theorem dX10_along_10 : decode cX10_along 10 = .ok (.ifCond .eq 29, 3) := by decide +kernel
theorem dX10_along_13 : decode cX10_along 13 = .ok (.aload_n 0, 1) := by decide +kernel
theorem dX10_along_14 : decode cX10_along 14 = .ok (.aload_n 0, 1) := by decide +kernel
theorem dX10_along_15 : decode cX10_along 15 = .ok (.aload_n 0, 1) := by decide +kernel
theorem dX10_along_16 : decode cX10_along 16 = .ok (.getfield 79, 3) := by decide +kernel
theorem dX10_along_19 : decode cX10_along 19 = .ok (.invokevirtual 295, 3) := by decide +kernel
theorem dX10_along_22 : decode cX10_along 22 = .ok (.aload_n 0, 1) := by decide +kernel
theorem dX10_along_23 : decode cX10_along 23 = .ok (.getfield 79, 3) := by decide +kernel
theorem dX10_along_26 : decode cX10_along 26 = .ok (.bipush 30, 2) := by decide +kernel
theorem dX10_along_28 : decode cX10_along 28 = .ok (.iaload, 1) := by decide +kernel
theorem dX10_along_29 : decode cX10_along 29 = .ok (.iconst (-1), 1) := by decide +kernel
theorem dX10_along_30 : decode cX10_along 30 = .ok (.ixor, 1) := by decide +kernel
theorem dX10_along_31 : decode cX10_along 31 = .ok (.iand, 1) := by decide +kernel
theorem dX10_along_32 : decode cX10_along 32 = .ok (.iload_n 1, 1) := by decide +kernel
theorem dX10_along_33 : decode cX10_along 33 = .ok (.invokevirtual 302, 3) := by decide +kernel
theorem dX10_along_36 : decode cX10_along 36 = .ok (.goto 4, 3) := by decide +kernel
theorem dX10_along_39 : decode cX10_along 39 = .ok (.iconst (-1), 1) := by decide +kernel
theorem dX10_along_40 : decode cX10_along 40 = .ok (.ireturn, 1) := by decide +kernel
theorem dX10_without_0 : decode cX10_without 0 = .ok (.aload_n 0, 1) := by decide +kernel
theorem dX10_without_1 : decode cX10_without 1 = .ok (.iconst 0, 1) := by decide +kernel
theorem dX10_without_2 : decode cX10_without 2 = .ok (.putfield 3, 3) := by decide +kernel
theorem dX10_without_5 : decode cX10_without 5 = .ok (.aload_n 0, 1) := by decide +kernel
theorem dX10_without_6 : decode cX10_without 6 = .ok (.iload_n 1, 1) := by decide +kernel
theorem dX10_without_7 : decode cX10_without 7 = .ok (.invokevirtual 95, 3) := by decide +kernel
theorem dX10_without_10 : decode cX10_without 10 = .ok (.ifCond .eq 18, 3) := by decide +kernel
theorem dX10_without_13 : decode cX10_without 13 = .ok (.aload_n 0, 1) := by decide +kernel
theorem dX10_without_14 : decode cX10_without 14 = .ok (.aload_n 0, 1) := by decide +kernel
theorem dX10_without_15 : decode cX10_without 15 = .ok (.getfield 79, 3) := by decide +kernel
theorem dX10_without_18 : decode cX10_without 18 = .ok (.bipush 30, 2) := by decide +kernel
theorem dX10_without_20 : decode cX10_without 20 = .ok (.iaload, 1) := by decide +kernel
theorem dX10_without_21 : decode cX10_without 21 = .ok (.iload_n 1, 1) := by decide +kernel
theorem dX10_without_22 : decode cX10_without 22 = .ok (.invokevirtual 302, 3) := by decide +kernel
theorem dX10_without_25 : decode cX10_without 25 = .ok (.goto 4, 3) := by decide +kernel
theorem dX10_without_28 : decode cX10_without 28 = .ok (.iconst (-1), 1) := by decide +kernel
theorem dX10_without_29 : decode cX10_without 29 = .ok (.ireturn, 1) := by decide +kernel
theorem dX10_bestWish_0 : decode cX10_bestWish 0 = .ok (.aload_n 1, 1) := by decide +kernel
theorem dX10_bestWish_1 : decode cX10_bestWish 1 = .ok (.bipush 10, 2) := by decide +kernel
theorem dX10_bestWish_3 : decode cX10_bestWish 3 = .ok (.iload_n 2, 1) := by decide +kernel
theorem dX10_bestWish_4 : decode cX10_bestWish 4 = .ok (.iadd, 1) := by decide +kernel
theorem dX10_bestWish_5 : decode cX10_bestWish 5 = .ok (.iaload, 1) := by decide +kernel
theorem dX10_bestWish_6 : decode cX10_bestWish 6 = .ok (.istore_n 3, 1) := by decide +kernel
theorem dX10_bestWish_7 : decode cX10_bestWish 7 = .ok (.iload_n 3, 1) := by decide +kernel
theorem dX10_bestWish_8 : decode cX10_bestWish 8 = .ok (.istore 4, 2) := by decide +kernel
theorem dX10_bestWish_10 : decode cX10_bestWish 10 = .ok (.aload_n 0, 1) := by decide +kernel
theorem dX10_bestWish_11 : decode cX10_bestWish 11 = .ok (.aload_n 0, 1) := by decide +kernel
theorem dX10_bestWish_12 : decode cX10_bestWish 12 = .ok (.aload_n 1, 1) := by decide +kernel
theorem dX10_bestWish_13 : decode cX10_bestWish 13 = .ok (.aload_n 1, 1) := by decide +kernel
theorem dX10_bestWish_14 : decode cX10_bestWish 14 = .ok (.bipush 30, 2) := by decide +kernel
theorem dX10_bestWish_16 : decode cX10_bestWish 16 = .ok (.iaload, 1) := by decide +kernel
theorem dX10_bestWish_17 : decode cX10_bestWish 17 = .ok (.invokevirtual 222, 3) := by decide +kernel
theorem dX10_bestWish_20 : decode cX10_bestWish 20 = .ok (.aload_n 0, 1) := by decide +kernel
theorem dX10_bestWish_21 : decode cX10_bestWish 21 = .ok (.getfield 135, 3) := by decide +kernel
theorem dX10_bestWish_24 : decode cX10_bestWish 24 = .ok (.iload_n 2, 1) := by decide +kernel
theorem dX10_bestWish_25 : decode cX10_bestWish 25 = .ok (.iaload, 1) := by decide +kernel
theorem dX10_bestWish_26 : decode cX10_bestWish 26 = .ok (.isub, 1) := by decide +kernel
theorem dX10_bestWish_27 : decode cX10_bestWish 27 = .ok (.invokestatic 199, 3) := by decide +kernel
theorem dX10_bestWish_30 : decode cX10_bestWish 30 = .ok (.putfield 305, 3) := by decide +kernel
theorem dX10_bestWish_33 : decode cX10_bestWish 33 = .ok (.iconst (-1), 1) := by decide +kernel
theorem dX10_bestWish_34 : decode cX10_bestWish 34 = .ok (.istore 5, 2) := by decide +kernel
theorem dX10_bestWish_36 : decode cX10_bestWish 36 = .ok (.iload 5, 2) := by decide +kernel
theorem dX10_bestWish_38 : decode cX10_bestWish 38 = .ok (.aload_n 0, 1) := by decide +kernel
theorem dX10_bestWish_39 : decode cX10_bestWish 39 = .ok (.getfield 22, 3) := by decide +kernel
theorem dX10_bestWish_42 : decode cX10_bestWish 42 = .ok (.if_icmp .ge 69, 3) := by decide +kernel
theorem dX10_bestWish_45 : decode cX10_bestWish 45 = .ok (.aload_n 1, 1) := by decide +kernel
theorem dX10_bestWish_46 : decode cX10_bestWish 46 = .ok (.bipush 10, 2) := by decide +kernel
theorem dX10_bestWish_48 : decode cX10_bestWish 48 = .ok (.iload_n 2, 1) := by decide +kernel
theorem dX10_bestWish_49 : decode cX10_bestWish 49 = .ok (.iadd, 1) := by decide +kernel
theorem dX10_bestWish_50 : decode cX10_bestWish 50 = .ok (.iload 5, 2) := by decide +kernel
theorem dX10_bestWish_52 : decode cX10_bestWish 52 = .ok (.iastore, 1) := by decide +kernel
theorem dX10_bestWish_53 : decode cX10_bestWish 53 = .ok (.aload_n 0, 1) := by decide +kernel
theorem dX10_bestWish_54 : decode cX10_bestWish 54 = .ok (.aload_n 1, 1) := by decide +kernel
theorem dX10_bestWish_55 : decode cX10_bestWish 55 = .ok (.aload_n 1, 1) := by decide +kernel
theorem dX10_bestWish_56 : decode cX10_bestWish 56 = .ok (.bipush 30, 2) := by decide +kernel
theorem dX10_bestWish_58 : decode cX10_bestWish 58 = .ok (.iaload, 1) := by decide +kernel
theorem dX10_bestWish_59 : decode cX10_bestWish 59 = .ok (.invokevirtual 222, 3) := by decide +kernel
theorem dX10_bestWish_62 : decode cX10_bestWish 62 = .ok (.aload_n 0, 1) := by decide +kernel
theorem dX10_bestWish_63 : decode cX10_bestWish 63 = .ok (.getfield 135, 3) := by decide +kernel
theorem dX10_bestWish_66 : decode cX10_bestWish 66 = .ok (.iload_n 2, 1) := by decide +kernel
theorem dX10_bestWish_67 : decode cX10_bestWish 67 = .ok (.iaload, 1) := by decide +kernel
theorem dX10_bestWish_68 : decode cX10_bestWish 68 = .ok (.isub, 1) := by decide +kernel
theorem dX10_bestWish_69 : decode cX10_bestWish 69 = .ok (.invokestatic 199, 3) := by decide +kernel
theorem dX10_bestWish_72 : decode cX10_bestWish 72 = .ok (.istore 6, 2) := by decide +kernel
theorem dX10_bestWish_74 : decode cX10_bestWish 74 = .ok (.iload 6, 2) := by decide +kernel
theorem dX10_bestWish_76 : decode cX10_bestWish 76 = .ok (.aload_n 0, 1) := by decide +kernel
theorem dX10_bestWish_77 : decode cX10_bestWish 77 = .ok (.getfield 305, 3) := by decide +kernel
theorem dX10_bestWish_80 : decode cX10_bestWish 80 = .ok (.if_icmp .ge 8, 3) := by decide +kernel
theorem dX10_bestWish_83 : decode cX10_bestWish 83 = .ok (.iload 5, 2) := by decide +kernel
theorem dX10_bestWish_85 : decode cX10_bestWish 85 = .ok (.goto 5, 3) := by decide +kernel
theorem dX10_bestWish_88 : decode cX10_bestWish 88 = .ok (.iload 4, 2) := by decide +kernel
theorem dX10_bestWish_90 : decode cX10_bestWish 90 = .ok (.istore 4, 2) := by decide +kernel
theorem dX10_bestWish_92 : decode cX10_bestWish 92 = .ok (.aload_n 0, 1) := by decide +kernel
theorem dX10_bestWish_93 : decode cX10_bestWish 93 = .ok (.aload_n 0, 1) := by decide +kernel
theorem dX10_bestWish_94 : decode cX10_bestWish 94 = .ok (.getfield 305, 3) := by decide +kernel
theorem dX10_bestWish_97 : decode cX10_bestWish 97 = .ok (.iload 6, 2) := by decide +kernel
theorem dX10_bestWish_99 : decode cX10_bestWish 99 = .ok (.invokestatic 45, 3) := by decide +kernel
theorem dX10_bestWish_102 : decode cX10_bestWish 102 = .ok (.putfield 305, 3) := by decide +kernel
theorem dX10_bestWish_105 : decode cX10_bestWish 105 = .ok (.iinc 5 1, 3) := by decide +kernel
theorem dX10_bestWish_108 : decode cX10_bestWish 108 = .ok (.goto (-72), 3) := by decide +kernel
theorem dX10_bestWish_111 : decode cX10_bestWish 111 = .ok (.aload_n 1, 1) := by decide +kernel
theorem dX10_bestWish_112 : decode cX10_bestWish 112 = .ok (.bipush 10, 2) := by decide +kernel
theorem dX10_bestWish_114 : decode cX10_bestWish 114 = .ok (.iload_n 2, 1) := by decide +kernel
theorem dX10_bestWish_115 : decode cX10_bestWish 115 = .ok (.iadd, 1) := by decide +kernel
theorem dX10_bestWish_116 : decode cX10_bestWish 116 = .ok (.iload_n 3, 1) := by decide +kernel
theorem dX10_bestWish_117 : decode cX10_bestWish 117 = .ok (.iastore, 1) := by decide +kernel
theorem dX10_bestWish_118 : decode cX10_bestWish 118 = .ok (.iload 4, 2) := by decide +kernel
theorem dX10_bestWish_120 : decode cX10_bestWish 120 = .ok (.ireturn, 1) := by decide +kernel
theorem dX10_puts_0 : decode cX10_puts 0 = .ok (.iconst 0, 1) := by decide +kernel
theorem dX10_puts_1 : decode cX10_puts 1 = .ok (.istore_n 2, 1) := by decide +kernel
theorem dX10_puts_2 : decode cX10_puts 2 = .ok (.iload_n 2, 1) := by decide +kernel
theorem dX10_puts_3 : decode cX10_puts 3 = .ok (.bipush 33, 2) := by decide +kernel
theorem dX10_puts_5 : decode cX10_puts 5 = .ok (.if_icmp .ge 15, 3) := by decide +kernel
theorem dX10_puts_8 : decode cX10_puts 8 = .ok (.aload_n 1, 1) := by decide +kernel
theorem dX10_puts_9 : decode cX10_puts 9 = .ok (.iload_n 2, 1) := by decide +kernel
theorem dX10_puts_10 : decode cX10_puts 10 = .ok (.aload_n 0, 1) := by decide +kernel
theorem dX10_puts_11 : decode cX10_puts 11 = .ok (.iload_n 2, 1) := by decide +kernel
theorem dX10_puts_12 : decode cX10_puts 12 = .ok (.iaload, 1) := by decide +kernel
theorem dX10_puts_13 : decode cX10_puts 13 = .ok (.iastore, 1) := by decide +kernel
theorem dX10_puts_14 : decode cX10_puts 14 = .ok (.iinc 2 1, 3) := by decide +kernel
theorem dX10_puts_17 : decode cX10_puts 17 = .ok (.goto (-15), 3) := by decide +kernel
theorem dX10_puts_20 : decode cX10_puts 20 = .ok (.return_, 1) := by decide +kernel
theorem dX10_advise_0 : decode cX10_advise 0 = .ok (.aload_n 0, 1) := by decide +kernel
theorem dX10_advise_1 : decode cX10_advise 1 = .ok (.iconst 0, 1) := by decide +kernel
theorem dX10_advise_2 : decode cX10_advise 2 = .ok (.putfield 3, 3) := by decide +kernel
theorem dX10_advise_5 : decode cX10_advise 5 = .ok (.aload_n 0, 1) := by decide +kernel
theorem dX10_advise_6 : decode cX10_advise 6 = .ok (.iload_n 1, 1) := by decide +kernel
theorem dX10_advise_7 : decode cX10_advise 7 = .ok (.invokevirtual 258, 3) := by decide +kernel
theorem dX10_advise_10 : decode cX10_advise 10 = .ok (.ifCond .ne 6, 3) := by decide +kernel
theorem dX10_advise_13 : decode cX10_advise 13 = .ok (.bipush (-2), 2) := by decide +kernel
theorem dX10_advise_15 : decode cX10_advise 15 = .ok (.ireturn, 1) := by decide +kernel
theorem dX10_advise_16 : decode cX10_advise 16 = .ok (.aload_n 0, 1) := by decide +kernel
theorem dX10_advise_17 : decode cX10_advise 17 = .ok (.aload_n 0, 1) := by decide +kernel
theorem dX10_advise_18 : decode cX10_advise 18 = .ok (.getfield 79, 3) := by decide +kernel
theorem dX10_advise_21 : decode cX10_advise 21 = .ok (.iload_n 1, 1) := by decide +kernel
theorem dX10_advise_22 : decode cX10_advise 22 = .ok (.invokevirtual 308, 3) := by decide +kernel
theorem dX10_advise_25 : decode cX10_advise 25 = .ok (.istore_n 2, 1) := by decide +kernel
theorem dX10_advise_26 : decode cX10_advise 26 = .ok (.aload_n 0, 1) := by decide +kernel
theorem dX10_advise_27 : decode cX10_advise 27 = .ok (.iconst 0, 1) := by decide +kernel
theorem dX10_advise_28 : decode cX10_advise 28 = .ok (.putfield 15, 3) := by decide +kernel
theorem dX10_advise_31 : decode cX10_advise 31 = .ok (.aload_n 0, 1) := by decide +kernel
theorem dX10_advise_32 : decode cX10_advise 32 = .ok (.aload_n 0, 1) := by decide +kernel
theorem dX10_advise_33 : decode cX10_advise 33 = .ok (.getfield 305, 3) := by decide +kernel
theorem dX10_advise_36 : decode cX10_advise 36 = .ok (.i2l, 1) := by decide +kernel
theorem dX10_advise_37 : decode cX10_advise 37 = .ok (.invokevirtual 18, 3) := by decide +kernel
theorem dX10_advise_40 : decode cX10_advise 40 = .ok (.iload_n 2, 1) := by decide +kernel
theorem dX10_advise_41 : decode cX10_advise 41 = .ok (.ireturn, 1) := by decide +kernel
theorem dX10_rests_0 : decode cX10_rests 0 = .ok (.aload_n 0, 1) := by decide +kernel
theorem dX10_rests_1 : decode cX10_rests 1 = .ok (.iconst 0, 1) := by decide +kernel
theorem dX10_rests_2 : decode cX10_rests 2 = .ok (.putfield 3, 3) := by decide +kernel
theorem dX10_rests_5 : decode cX10_rests 5 = .ok (.iload_n 1, 1) := by decide +kernel
theorem dX10_rests_6 : decode cX10_rests 6 = .ok (.i2l, 1) := by decide +kernel
theorem dX10_rests_7 : decode cX10_rests 7 = .ok (.lconst 0, 1) := by decide +kernel
theorem dX10_rests_8 : decode cX10_rests 8 = .ok (.ldc2_w 311, 3) := by decide +kernel
theorem dX10_rests_11 : decode cX10_rests 11 = .ok (.invokestatic 25, 3) := by decide +kernel
theorem dX10_rests_14 : decode cX10_rests 14 = .ok (.ifCond .ne 5, 3) := by decide +kernel
theorem dX10_rests_17 : decode cX10_rests 17 = .ok (.iconst (-1), 1) := by decide +kernel
theorem dX10_rests_18 : decode cX10_rests 18 = .ok (.ireturn, 1) := by decide +kernel
theorem dX10_rests_19 : decode cX10_rests 19 = .ok (.aload_n 0, 1) := by decide +kernel
theorem dX10_rests_20 : decode cX10_rests 20 = .ok (.getfield 79, 3) := by decide +kernel
theorem dX10_rests_23 : decode cX10_rests 23 = .ok (.aload_n 0, 1) := by decide +kernel
theorem dX10_rests_24 : decode cX10_rests 24 = .ok (.getfield 313, 3) := by decide +kernel
theorem dX10_rests_27 : decode cX10_rests 27 = .ok (.invokestatic 316, 3) := by decide +kernel
theorem dX10_rests_30 : decode cX10_rests 30 = .ok (.iconst 0, 1) := by decide +kernel
theorem dX10_rests_31 : decode cX10_rests 31 = .ok (.istore_n 2, 1) := by decide +kernel
theorem dX10_rests_32 : decode cX10_rests 32 = .ok (.iconst 0, 1) := by decide +kernel
theorem dX10_rests_33 : decode cX10_rests 33 = .ok (.istore_n 3, 1) := by decide +kernel
theorem dX10_rests_34 : decode cX10_rests 34 = .ok (.iload_n 2, 1) := by decide +kernel
theorem dX10_rests_35 : decode cX10_rests 35 = .ok (.iload_n 1, 1) := by decide +kernel
theorem dX10_rests_36 : decode cX10_rests 36 = .ok (.if_icmp .ge 97, 3) := by decide +kernel
theorem dX10_rests_39 : decode cX10_rests 39 = .ok (.iload_n 3, 1) := by decide +kernel
theorem dX10_rests_40 : decode cX10_rests 40 = .ok (.ifCond .ne 93, 3) := by decide +kernel
theorem dX10_rests_43 : decode cX10_rests 43 = .ok (.iconst 1, 1) := by decide +kernel
theorem dX10_rests_44 : decode cX10_rests 44 = .ok (.istore_n 3, 1) := by decide +kernel
theorem dX10_rests_45 : decode cX10_rests 45 = .ok (.iconst 0, 1) := by decide +kernel
theorem dX10_rests_46 : decode cX10_rests 46 = .ok (.istore 4, 2) := by decide +kernel
theorem dX10_rests_48 : decode cX10_rests 48 = .ok (.iload 4, 2) := by decide +kernel
theorem dX10_rests_50 : decode cX10_rests 50 = .ok (.aload_n 0, 1) := by decide +kernel
theorem dX10_rests_51 : decode cX10_rests 51 = .ok (.getfield 29, 3) := by decide +kernel
theorem dX10_rests_54 : decode cX10_rests 54 = .ok (.if_icmp .ge 73, 3) := by decide +kernel
theorem dX10_rests_57 : decode cX10_rests 57 = .ok (.aload_n 0, 1) := by decide +kernel
theorem dX10_rests_58 : decode cX10_rests 58 = .ok (.getfield 313, 3) := by decide +kernel
theorem dX10_rests_61 : decode cX10_rests 61 = .ok (.bipush 30, 2) := by decide +kernel
theorem dX10_rests_63 : decode cX10_rests 63 = .ok (.iaload, 1) := by decide +kernel
theorem dX10_rests_64 : decode cX10_rests 64 = .ok (.iload 4, 2) := by decide +kernel
theorem dX10_rests_66 : decode cX10_rests 66 = .ok (.invokestatic 195, 3) := by decide +kernel
theorem dX10_rests_69 : decode cX10_rests 69 = .ok (.ifCond .eq 52, 3) := by decide +kernel
theorem dX10_rests_72 : decode cX10_rests 72 = .ok (.aload_n 0, 1) := by decide +kernel
theorem dX10_rests_73 : decode cX10_rests 73 = .ok (.aload_n 0, 1) := by decide +kernel
theorem dX10_rests_74 : decode cX10_rests 74 = .ok (.getfield 313, 3) := by decide +kernel
theorem dX10_rests_77 : decode cX10_rests 77 = .ok (.iload 4, 2) := by decide +kernel
theorem dX10_rests_79 : decode cX10_rests 79 = .ok (.invokevirtual 308, 3) := by decide +kernel
theorem dX10_rests_82 : decode cX10_rests 82 = .ok (.istore 5, 2) := by decide +kernel
theorem dX10_rests_84 : decode cX10_rests 84 = .ok (.iload_n 3, 1) := by decide +kernel
theorem dX10_rests_85 : decode cX10_rests 85 = .ok (.ifCond .eq 22, 3) := by decide +kernel
theorem dX10_rests_88 : decode cX10_rests 88 = .ok (.iload 5, 2) := by decide +kernel
theorem dX10_rests_90 : decode cX10_rests 90 = .ok (.aload_n 0, 1) := by decide +kernel
theorem dX10_rests_91 : decode cX10_rests 91 = .ok (.getfield 313, 3) := by decide +kernel
theorem dX10_rests_94 : decode cX10_rests 94 = .ok (.bipush 10, 2) := by decide +kernel
theorem dX10_rests_96 : decode cX10_rests 96 = .ok (.iload 4, 2) := by decide +kernel
theorem dX10_rests_98 : decode cX10_rests 98 = .ok (.iadd, 1) := by decide +kernel
theorem dX10_rests_99 : decode cX10_rests 99 = .ok (.iaload, 1) := by decide +kernel
theorem dX10_rests_100 : decode cX10_rests 100 = .ok (.if_icmp .ne 7, 3) := by decide +kernel
theorem dX10_rests_103 : decode cX10_rests 103 = .ok (.iconst 1, 1) := by decide +kernel
theorem dX10_rests_104 : decode cX10_rests 104 = .ok (.goto 4, 3) := by decide +kernel
theorem dX10_rests_107 : decode cX10_rests 107 = .ok (.iconst 0, 1) := by decide +kernel
theorem dX10_rests_108 : decode cX10_rests 108 = .ok (.istore_n 3, 1) := by decide +kernel
theorem dX10_rests_109 : decode cX10_rests 109 = .ok (.aload_n 0, 1) := by decide +kernel
theorem dX10_rests_110 : decode cX10_rests 110 = .ok (.getfield 313, 3) := by decide +kernel
theorem dX10_rests_113 : decode cX10_rests 113 = .ok (.bipush 10, 2) := by decide +kernel
theorem dX10_rests_115 : decode cX10_rests 115 = .ok (.iload 4, 2) := by decide +kernel
theorem dX10_rests_117 : decode cX10_rests 117 = .ok (.iadd, 1) := by decide +kernel
theorem dX10_rests_118 : decode cX10_rests 118 = .ok (.iload 5, 2) := by decide +kernel
theorem dX10_rests_120 : decode cX10_rests 120 = .ok (.iastore, 1) := by decide +kernel
theorem dX10_rests_121 : decode cX10_rests 121 = .ok (.iinc 4 1, 3) := by decide +kernel
theorem dX10_rests_124 : decode cX10_rests 124 = .ok (.goto (-76), 3) := by decide +kernel
theorem dX10_rests_127 : decode cX10_rests 127 = .ok (.iinc 2 1, 3) := by decide +kernel
theorem dX10_rests_130 : decode cX10_rests 130 = .ok (.goto (-96), 3) := by decide +kernel
theorem dX10_rests_133 : decode cX10_rests 133 = .ok (.aload_n 0, 1) := by decide +kernel
theorem dX10_rests_134 : decode cX10_rests 134 = .ok (.iconst 0, 1) := by decide +kernel
theorem dX10_rests_135 : decode cX10_rests 135 = .ok (.putfield 15, 3) := by decide +kernel
theorem dX10_rests_138 : decode cX10_rests 138 = .ok (.aload_n 0, 1) := by decide +kernel
theorem dX10_rests_139 : decode cX10_rests 139 = .ok (.iload_n 3, 1) := by decide +kernel
theorem dX10_rests_140 : decode cX10_rests 140 = .ok (.invokestatic 54, 3) := by decide +kernel
theorem dX10_rests_143 : decode cX10_rests 143 = .ok (.i2l, 1) := by decide +kernel
theorem dX10_rests_144 : decode cX10_rests 144 = .ok (.invokevirtual 18, 3) := by decide +kernel
theorem dX10_rests_147 : decode cX10_rests 147 = .ok (.aload_n 0, 1) := by decide +kernel
theorem dX10_rests_148 : decode cX10_rests 148 = .ok (.aload_n 0, 1) := by decide +kernel
theorem dX10_rests_149 : decode cX10_rests 149 = .ok (.aload_n 0, 1) := by decide +kernel
theorem dX10_rests_150 : decode cX10_rests 150 = .ok (.getfield 313, 3) := by decide +kernel
theorem dX10_rests_153 : decode cX10_rests 153 = .ok (.aload_n 0, 1) := by decide +kernel
theorem dX10_rests_154 : decode cX10_rests 154 = .ok (.getfield 313, 3) := by decide +kernel
theorem dX10_rests_157 : decode cX10_rests 157 = .ok (.bipush 30, 2) := by decide +kernel
theorem dX10_rests_159 : decode cX10_rests 159 = .ok (.iaload, 1) := by decide +kernel
theorem dX10_rests_160 : decode cX10_rests 160 = .ok (.invokevirtual 222, 3) := by decide +kernel
theorem dX10_rests_163 : decode cX10_rests 163 = .ok (.i2l, 1) := by decide +kernel
theorem dX10_rests_164 : decode cX10_rests 164 = .ok (.invokevirtual 18, 3) := by decide +kernel
theorem dX10_rests_167 : decode cX10_rests 167 = .ok (.iconst 0, 1) := by decide +kernel
theorem dX10_rests_168 : decode cX10_rests 168 = .ok (.istore 4, 2) := by decide +kernel
theorem dX10_rests_170 : decode cX10_rests 170 = .ok (.iload 4, 2) := by decide +kernel
theorem dX10_rests_172 : decode cX10_rests 172 = .ok (.aload_n 0, 1) := by decide +kernel
theorem dX10_rests_173 : decode cX10_rests 173 = .ok (.getfield 29, 3) := by decide +kernel
theorem dX10_rests_176 : decode cX10_rests 176 = .ok (.if_icmp .ge 24, 3) := by decide +kernel
theorem dX10_rests_179 : decode cX10_rests 179 = .ok (.aload_n 0, 1) := by decide +kernel
theorem dX10_rests_180 : decode cX10_rests 180 = .ok (.aload_n 0, 1) := by decide +kernel
theorem dX10_rests_181 : decode cX10_rests 181 = .ok (.getfield 313, 3) := by decide +kernel
theorem dX10_rests_184 : decode cX10_rests 184 = .ok (.bipush 10, 2) := by decide +kernel
theorem dX10_rests_186 : decode cX10_rests 186 = .ok (.iload 4, 2) := by decide +kernel
theorem dX10_rests_188 : decode cX10_rests 188 = .ok (.iadd, 1) := by decide +kernel
theorem dX10_rests_189 : decode cX10_rests 189 = .ok (.iaload, 1) := by decide +kernel
theorem dX10_rests_190 : decode cX10_rests 190 = .ok (.i2l, 1) := by decide +kernel
theorem dX10_rests_191 : decode cX10_rests 191 = .ok (.invokevirtual 18, 3) := by decide +kernel
theorem dX10_rests_194 : decode cX10_rests 194 = .ok (.iinc 4 1, 3) := by decide +kernel
theorem dX10_rests_197 : decode cX10_rests 197 = .ok (.goto (-27), 3) := by decide +kernel
theorem dX10_rests_200 : decode cX10_rests 200 = .ok (.iload_n 2, 1) := by decide +kernel
theorem dX10_rests_201 : decode cX10_rests 201 = .ok (.ireturn, 1) := by decide +kernel
theorem dX10_then_0 : decode cX10_then 0 = .ok (.aload_n 0, 1) := by decide +kernel
theorem dX10_then_1 : decode cX10_then 1 = .ok (.iconst 0, 1) := by decide +kernel
theorem dX10_then_2 : decode cX10_then 2 = .ok (.putfield 3, 3) := by decide +kernel
theorem dX10_then_5 : decode cX10_then 5 = .ok (.iload_n 1, 1) := by decide +kernel
theorem dX10_then_6 : decode cX10_then 6 = .ok (.i2l, 1) := by decide +kernel
theorem dX10_then_7 : decode cX10_then 7 = .ok (.lconst 0, 1) := by decide +kernel
