theorem dX9_init_0 : decode cX9_init 0 = .ok (.aload_n 0, 1) := by decide +kernel
theorem dX9_init_1 : decode cX9_init 1 = .ok (.invokespecial 3, 3) := by decide +kernel
theorem dX9_init_4 : decode cX9_init 4 = .ok (.aload_n 0, 1) := by decide +kernel
theorem dX9_init_5 : decode cX9_init 5 = .ok (.new 9, 3) := by decide +kernel
theorem dX9_init_8 : decode cX9_init 8 = .ok (.dup, 1) := by decide +kernel
theorem dX9_init_9 : decode cX9_init 9 = .ok (.invokespecial 11, 3) := by decide +kernel
theorem dX9_init_12 : decode cX9_init 12 = .ok (.putfield 12, 3) := by decide +kernel
theorem dX9_init_15 : decode cX9_init 15 = .ok (.aload_n 0, 1) := by decide +kernel
theorem dX9_init_16 : decode cX9_init 16 = .ok (.new 16, 3) := by decide +kernel
theorem dX9_init_19 : decode cX9_init 19 = .ok (.dup, 1) := by decide +kernel
theorem dX9_init_20 : decode cX9_init 20 = .ok (.invokespecial 18, 3) := by decide +kernel
theorem dX9_init_23 : decode cX9_init 23 = .ok (.putfield 19, 3) := by decide +kernel
theorem dX9_init_26 : decode cX9_init 26 = .ok (.aload_n 0, 1) := by decide +kernel
theorem dX9_init_27 : decode cX9_init 27 = .ok (.new 23, 3) := by decide +kernel
theorem dX9_init_30 : decode cX9_init 30 = .ok (.dup, 1) := by decide +kernel
theorem dX9_init_31 : decode cX9_init 31 = .ok (.invokespecial 25, 3) := by decide +kernel
theorem dX9_init_34 : decode cX9_init 34 = .ok (.putfield 26, 3) := by decide +kernel
theorem dX9_init_37 : decode cX9_init 37 = .ok (.aload_n 0, 1) := by decide +kernel
theorem dX9_init_38 : decode cX9_init 38 = .ok (.new 23, 3) := by decide +kernel
theorem dX9_init_41 : decode cX9_init 41 = .ok (.dup, 1) := by decide +kernel
theorem dX9_init_42 : decode cX9_init 42 = .ok (.invokespecial 25, 3) := by decide +kernel
theorem dX9_init_45 : decode cX9_init 45 = .ok (.putfield 30, 3) := by decide +kernel
theorem dX9_init_48 : decode cX9_init 48 = .ok (.aload_n 0, 1) := by decide +kernel
theorem dX9_init_49 : decode cX9_init 49 = .ok (.new 33, 3) := by decide +kernel
theorem dX9_init_52 : decode cX9_init 52 = .ok (.dup, 1) := by decide +kernel
theorem dX9_init_53 : decode cX9_init 53 = .ok (.invokespecial 35, 3) := by decide +kernel
theorem dX9_init_56 : decode cX9_init 56 = .ok (.putfield 36, 3) := by decide +kernel
theorem dX9_init_59 : decode cX9_init 59 = .ok (.aload_n 0, 1) := by decide +kernel
theorem dX9_init_60 : decode cX9_init 60 = .ok (.iconst 3, 1) := by decide +kernel
theorem dX9_init_61 : decode cX9_init 61 = .ok (.anewarray 23, 3) := by decide +kernel
theorem dX9_init_64 : decode cX9_init 64 = .ok (.putfield 40, 3) := by decide +kernel
theorem dX9_init_67 : decode cX9_init 67 = .ok (.aload_n 0, 1) := by decide +kernel
theorem dX9_init_68 : decode cX9_init 68 = .ok (.iconst 3, 1) := by decide +kernel
theorem dX9_init_69 : decode cX9_init 69 = .ok (.newarray .boolean, 2) := by decide +kernel
theorem dX9_init_71 : decode cX9_init 71 = .ok (.putfield 44, 3) := by decide +kernel
theorem dX9_init_74 : decode cX9_init 74 = .ok (.aload_n 0, 1) := by decide +kernel
theorem dX9_init_75 : decode cX9_init 75 = .ok (.new 48, 3) := by decide +kernel
theorem dX9_init_78 : decode cX9_init 78 = .ok (.dup, 1) := by decide +kernel
theorem dX9_init_79 : decode cX9_init 79 = .ok (.invokespecial 50, 3) := by decide +kernel
theorem dX9_init_82 : decode cX9_init 82 = .ok (.putfield 51, 3) := by decide +kernel
theorem dX9_init_85 : decode cX9_init 85 = .ok (.aload_n 0, 1) := by decide +kernel
theorem dX9_init_86 : decode cX9_init 86 = .ok (.bipush 9, 2) := by decide +kernel
theorem dX9_init_88 : decode cX9_init 88 = .ok (.newarray .long, 2) := by decide +kernel
theorem dX9_init_90 : decode cX9_init 90 = .ok (.putfield 55, 3) := by decide +kernel
theorem dX9_init_93 : decode cX9_init 93 = .ok (.aload_n 0, 1) := by decide +kernel
theorem dX9_init_94 : decode cX9_init 94 = .ok (.bipush 12, 2) := by decide +kernel
theorem dX9_init_96 : decode cX9_init 96 = .ok (.newarray .long, 2) := by decide +kernel
theorem dX9_init_98 : decode cX9_init 98 = .ok (.putfield 59, 3) := by decide +kernel
theorem dX9_init_101 : decode cX9_init 101 = .ok (.aload_n 0, 1) := by decide +kernel
theorem dX9_init_102 : decode cX9_init 102 = .ok (.iconst 0, 1) := by decide +kernel
theorem dX9_init_103 : decode cX9_init 103 = .ok (.putfield 62, 3) := by decide +kernel
theorem dX9_init_106 : decode cX9_init 106 = .ok (.aload_n 0, 1) := by decide +kernel
theorem dX9_init_107 : decode cX9_init 107 = .ok (.new 66, 3) := by decide +kernel
theorem dX9_init_110 : decode cX9_init 110 = .ok (.dup, 1) := by decide +kernel
theorem dX9_init_111 : decode cX9_init 111 = .ok (.invokespecial 68, 3) := by decide +kernel
theorem dX9_init_114 : decode cX9_init 114 = .ok (.putfield 69, 3) := by decide +kernel
theorem dX9_init_117 : decode cX9_init 117 = .ok (.aload_n 0, 1) := by decide +kernel
theorem dX9_init_118 : decode cX9_init 118 = .ok (.new 73, 3) := by decide +kernel
theorem dX9_init_121 : decode cX9_init 121 = .ok (.dup, 1) := by decide +kernel
theorem dX9_init_122 : decode cX9_init 122 = .ok (.invokespecial 75, 3) := by decide +kernel
theorem dX9_init_125 : decode cX9_init 125 = .ok (.putfield 76, 3) := by decide +kernel
theorem dX9_init_128 : decode cX9_init 128 = .ok (.iconst 0, 1) := by decide +kernel
theorem dX9_init_129 : decode cX9_init 129 = .ok (.istore_n 1, 1) := by decide +kernel
theorem dX9_init_130 : decode cX9_init 130 = .ok (.iload_n 1, 1) := by decide +kernel
theorem dX9_init_131 : decode cX9_init 131 = .ok (.iconst 3, 1) := by decide +kernel
theorem dX9_init_132 : decode cX9_init 132 = .ok (.if_icmp .ge 22, 3) := by decide +kernel
theorem dX9_init_135 : decode cX9_init 135 = .ok (.aload_n 0, 1) := by decide +kernel
theorem dX9_init_136 : decode cX9_init 136 = .ok (.getfield 40, 3) := by decide +kernel
theorem dX9_init_139 : decode cX9_init 139 = .ok (.iload_n 1, 1) := by decide +kernel
theorem dX9_init_140 : decode cX9_init 140 = .ok (.new 23, 3) := by decide +kernel
theorem dX9_init_143 : decode cX9_init 143 = .ok (.dup, 1) := by decide +kernel
theorem dX9_init_144 : decode cX9_init 144 = .ok (.invokespecial 25, 3) := by decide +kernel
theorem dX9_init_147 : decode cX9_init 147 = .ok (.aastore, 1) := by decide +kernel
theorem dX9_init_148 : decode cX9_init 148 = .ok (.iinc 1 1, 3) := by decide +kernel
theorem dX9_init_151 : decode cX9_init 151 = .ok (.goto (-21), 3) := by decide +kernel
theorem dX9_init_154 : decode cX9_init 154 = .ok (.return_, 1) := by decide +kernel
theorem dX9_sign_0 : decode cX9_sign 0 = .ok (.aload_n 0, 1) := by decide +kernel
theorem dX9_sign_1 : decode cX9_sign 1 = .ok (.getfield 12, 3) := by decide +kernel
theorem dX9_sign_4 : decode cX9_sign 4 = .ok (.getfield 80, 3) := by decide +kernel
theorem dX9_sign_7 : decode cX9_sign 7 = .ok (.iconst 4, 1) := by decide +kernel
theorem dX9_sign_8 : decode cX9_sign 8 = .ok (.iadd, 1) := by decide +kernel
theorem dX9_sign_9 : decode cX9_sign 9 = .ok (.bipush 80, 2) := by decide +kernel
theorem dX9_sign_11 : decode cX9_sign 11 = .ok (.if_icmp .le 5, 3) := by decide +kernel
theorem dX9_sign_14 : decode cX9_sign 14 = .ok (.iconst (-1), 1) := by decide +kernel
theorem dX9_sign_15 : decode cX9_sign 15 = .ok (.ireturn, 1) := by decide +kernel
theorem dX9_sign_16 : decode cX9_sign 16 = .ok (.aload_n 0, 1) := by decide +kernel
theorem dX9_sign_17 : decode cX9_sign 17 = .ok (.getfield 12, 3) := by decide +kernel
theorem dX9_sign_20 : decode cX9_sign 20 = .ok (.iload_n 1, 1) := by decide +kernel
theorem dX9_sign_21 : decode cX9_sign 21 = .ok (.bipush 24, 2) := by decide +kernel
theorem dX9_sign_23 : decode cX9_sign 23 = .ok (.iushr, 1) := by decide +kernel
theorem dX9_sign_24 : decode cX9_sign 24 = .ok (.invokevirtual 83, 3) := by decide +kernel
theorem dX9_sign_27 : decode cX9_sign 27 = .ok (.aload_n 0, 1) := by decide +kernel
theorem dX9_sign_28 : decode cX9_sign 28 = .ok (.getfield 12, 3) := by decide +kernel
theorem dX9_sign_31 : decode cX9_sign 31 = .ok (.iload_n 1, 1) := by decide +kernel
theorem dX9_sign_32 : decode cX9_sign 32 = .ok (.bipush 16, 2) := by decide +kernel
theorem dX9_sign_34 : decode cX9_sign 34 = .ok (.iushr, 1) := by decide +kernel
theorem dX9_sign_35 : decode cX9_sign 35 = .ok (.sipush 255, 3) := by decide +kernel
theorem dX9_sign_38 : decode cX9_sign 38 = .ok (.iand, 1) := by decide +kernel
theorem dX9_sign_39 : decode cX9_sign 39 = .ok (.invokevirtual 83, 3) := by decide +kernel
theorem dX9_sign_42 : decode cX9_sign 42 = .ok (.aload_n 0, 1) := by decide +kernel
theorem dX9_sign_43 : decode cX9_sign 43 = .ok (.getfield 12, 3) := by decide +kernel
theorem dX9_sign_46 : decode cX9_sign 46 = .ok (.iload_n 1, 1) := by decide +kernel
theorem dX9_sign_47 : decode cX9_sign 47 = .ok (.bipush 8, 2) := by decide +kernel
theorem dX9_sign_49 : decode cX9_sign 49 = .ok (.iushr, 1) := by decide +kernel
theorem dX9_sign_50 : decode cX9_sign 50 = .ok (.sipush 255, 3) := by decide +kernel
theorem dX9_sign_53 : decode cX9_sign 53 = .ok (.iand, 1) := by decide +kernel
theorem dX9_sign_54 : decode cX9_sign 54 = .ok (.invokevirtual 83, 3) := by decide +kernel
theorem dX9_sign_57 : decode cX9_sign 57 = .ok (.aload_n 0, 1) := by decide +kernel
theorem dX9_sign_58 : decode cX9_sign 58 = .ok (.getfield 12, 3) := by decide +kernel
theorem dX9_sign_61 : decode cX9_sign 61 = .ok (.iload_n 1, 1) := by decide +kernel
theorem dX9_sign_62 : decode cX9_sign 62 = .ok (.sipush 255, 3) := by decide +kernel
theorem dX9_sign_65 : decode cX9_sign 65 = .ok (.iand, 1) := by decide +kernel
theorem dX9_sign_66 : decode cX9_sign 66 = .ok (.invokevirtual 83, 3) := by decide +kernel
theorem dX9_sign_69 : decode cX9_sign 69 = .ok (.aload_n 0, 1) := by decide +kernel
theorem dX9_sign_70 : decode cX9_sign 70 = .ok (.getfield 12, 3) := by decide +kernel
theorem dX9_sign_73 : decode cX9_sign 73 = .ok (.getfield 80, 3) := by decide +kernel
theorem dX9_sign_76 : decode cX9_sign 76 = .ok (.ireturn, 1) := by decide +kernel
theorem dX9_end_0 : decode cX9_end 0 = .ok (.iload_n 1, 1) := by decide +kernel
theorem dX9_end_1 : decode cX9_end 1 = .ok (.ifCond .lt 14, 3) := by decide +kernel
theorem dX9_end_4 : decode cX9_end 4 = .ok (.iload_n 1, 1) := by decide +kernel
theorem dX9_end_5 : decode cX9_end 5 = .ok (.aload_n 0, 1) := by decide +kernel
theorem dX9_end_6 : decode cX9_end 6 = .ok (.getfield 12, 3) := by decide +kernel
theorem dX9_end_9 : decode cX9_end 9 = .ok (.getfield 80, 3) := by decide +kernel
theorem dX9_end_12 : decode cX9_end 12 = .ok (.if_icmp .le 5, 3) := by decide +kernel
theorem dX9_end_15 : decode cX9_end 15 = .ok (.iconst 0, 1) := by decide +kernel
theorem dX9_end_16 : decode cX9_end 16 = .ok (.ireturn, 1) := by decide +kernel
theorem dX9_end_17 : decode cX9_end 17 = .ok (.aload_n 0, 1) := by decide +kernel
theorem dX9_end_18 : decode cX9_end 18 = .ok (.getfield 12, 3) := by decide +kernel
theorem dX9_end_21 : decode cX9_end 21 = .ok (.iload_n 1, 1) := by decide +kernel
theorem dX9_end_22 : decode cX9_end 22 = .ok (.putfield 80, 3) := by decide +kernel
theorem dX9_end_25 : decode cX9_end 25 = .ok (.iconst 1, 1) := by decide +kernel
theorem dX9_end_26 : decode cX9_end 26 = .ok (.ireturn, 1) := by decide +kernel
theorem dX9_floors_0 : decode cX9_floors 0 = .ok (.iload_n 1, 1) := by decide +kernel
theorem dX9_floors_1 : decode cX9_floors 1 = .ok (.iconst 2, 1) := by decide +kernel
theorem dX9_floors_2 : decode cX9_floors 2 = .ok (.if_icmp .lt 9, 3) := by decide +kernel
theorem dX9_floors_5 : decode cX9_floors 5 = .ok (.iload_n 1, 1) := by decide +kernel
theorem dX9_floors_6 : decode cX9_floors 6 = .ok (.bipush 9, 2) := by decide +kernel
theorem dX9_floors_8 : decode cX9_floors 8 = .ok (.if_icmp .le 5, 3) := by decide +kernel
theorem dX9_floors_11 : decode cX9_floors 11 = .ok (.iconst 0, 1) := by decide +kernel
theorem dX9_floors_12 : decode cX9_floors 12 = .ok (.ireturn, 1) := by decide +kernel
theorem dX9_floors_13 : decode cX9_floors 13 = .ok (.aload_n 0, 1) := by decide +kernel
theorem dX9_floors_14 : decode cX9_floors 14 = .ok (.getfield 19, 3) := by decide +kernel
theorem dX9_floors_17 : decode cX9_floors 17 = .ok (.iload_n 1, 1) := by decide +kernel
theorem dX9_floors_18 : decode cX9_floors 18 = .ok (.invokevirtual 87, 3) := by decide +kernel
theorem dX9_floors_21 : decode cX9_floors 21 = .ok (.aload_n 0, 1) := by decide +kernel
theorem dX9_floors_22 : decode cX9_floors 22 = .ok (.getfield 26, 3) := by decide +kernel
theorem dX9_floors_25 : decode cX9_floors 25 = .ok (.invokevirtual 90, 3) := by decide +kernel
theorem dX9_floors_28 : decode cX9_floors 28 = .ok (.aload_n 0, 1) := by decide +kernel
theorem dX9_floors_29 : decode cX9_floors 29 = .ok (.getfield 51, 3) := by decide +kernel
theorem dX9_floors_32 : decode cX9_floors 32 = .ok (.iconst 0, 1) := by decide +kernel
theorem dX9_floors_33 : decode cX9_floors 33 = .ok (.putfield 93, 3) := by decide +kernel
theorem dX9_floors_36 : decode cX9_floors 36 = .ok (.aload_n 0, 1) := by decide +kernel
theorem dX9_floors_37 : decode cX9_floors 37 = .ok (.invokevirtual 94, 3) := by decide +kernel
theorem dX9_floors_40 : decode cX9_floors 40 = .ok (.iconst 1, 1) := by decide +kernel
theorem dX9_floors_41 : decode cX9_floors 41 = .ok (.ireturn, 1) := by decide +kernel
theorem dX9_house_0 : decode cX9_house 0 = .ok (.aload_n 0, 1) := by decide +kernel
theorem dX9_house_1 : decode cX9_house 1 = .ok (.getfield 19, 3) := by decide +kernel
theorem dX9_house_4 : decode cX9_house 4 = .ok (.aload_n 0, 1) := by decide +kernel
theorem dX9_house_5 : decode cX9_house 5 = .ok (.getfield 12, 3) := by decide +kernel
theorem dX9_house_8 : decode cX9_house 8 = .ok (.aload_n 0, 1) := by decide +kernel
theorem dX9_house_9 : decode cX9_house 9 = .ok (.getfield 26, 3) := by decide +kernel
theorem dX9_house_12 : decode cX9_house 12 = .ok (.getfield 97, 3) := by decide +kernel
theorem dX9_house_15 : decode cX9_house 15 = .ok (.invokevirtual 100, 3) := by decide +kernel
theorem dX9_house_18 : decode cX9_house 18 = .ok (.istore_n 1, 1) := by decide +kernel
theorem dX9_house_19 : decode cX9_house 19 = .ok (.iconst 0, 1) := by decide +kernel
theorem dX9_house_20 : decode cX9_house 20 = .ok (.istore_n 2, 1) := by decide +kernel
theorem dX9_house_21 : decode cX9_house 21 = .ok (.iload_n 1, 1) := by decide +kernel
theorem dX9_house_22 : decode cX9_house 22 = .ok (.ifCond .ge 8, 3) := by decide +kernel
theorem dX9_house_25 : decode cX9_house 25 = .ok (.aload_n 0, 1) := by decide +kernel
theorem dX9_house_26 : decode cX9_house 26 = .ok (.invokevirtual 104, 3) := by decide +kernel
theorem dX9_house_29 : decode cX9_house 29 = .ok (.istore_n 2, 1) := by decide +kernel
theorem dX9_house_30 : decode cX9_house 30 = .ok (.aload_n 0, 1) := by decide +kernel
theorem dX9_house_31 : decode cX9_house 31 = .ok (.getfield 12, 3) := by decide +kernel
theorem dX9_house_34 : decode cX9_house 34 = .ok (.iconst 0, 1) := by decide +kernel
theorem dX9_house_35 : decode cX9_house 35 = .ok (.putfield 80, 3) := by decide +kernel
theorem dX9_house_38 : decode cX9_house 38 = .ok (.iload_n 1, 1) := by decide +kernel
theorem dX9_house_39 : decode cX9_house 39 = .ok (.ifCond .ge 7, 3) := by decide +kernel
theorem dX9_house_42 : decode cX9_house 42 = .ok (.iload_n 2, 1) := by decide +kernel
theorem dX9_house_43 : decode cX9_house 43 = .ok (.goto 6, 3) := by decide +kernel
theorem dX9_house_46 : decode cX9_house 46 = .ok (.iconst (-1), 1) := by decide +kernel
theorem dX9_house_47 : decode cX9_house 47 = .ok (.iload_n 1, 1) := by decide +kernel
theorem dX9_house_48 : decode cX9_house 48 = .ok (.isub, 1) := by decide +kernel
theorem dX9_house_49 : decode cX9_house 49 = .ok (.ireturn, 1) := by decide +kernel
theorem dX9_law_0 : decode cX9_law 0 = .ok (.aload_n 0, 1) := by decide +kernel
theorem dX9_law_1 : decode cX9_law 1 = .ok (.getfield 19, 3) := by decide +kernel
theorem dX9_law_4 : decode cX9_law 4 = .ok (.getfield 108, 3) := by decide +kernel
theorem dX9_law_7 : decode cX9_law 7 = .ok (.aload_n 0, 1) := by decide +kernel
theorem dX9_law_8 : decode cX9_law 8 = .ok (.getfield 12, 3) := by decide +kernel
theorem dX9_law_11 : decode cX9_law 11 = .ok (.invokevirtual 112, 3) := by decide +kernel
theorem dX9_law_14 : decode cX9_law 14 = .ok (.istore_n 1, 1) := by decide +kernel
theorem dX9_law_15 : decode cX9_law 15 = .ok (.iload_n 1, 1) := by decide +kernel
theorem dX9_law_16 : decode cX9_law 16 = .ok (.ifCond .ge 17, 3) := by decide +kernel
theorem dX9_law_19 : decode cX9_law 19 = .ok (.aload_n 0, 1) := by decide +kernel
theorem dX9_law_20 : decode cX9_law 20 = .ok (.getfield 19, 3) := by decide +kernel
theorem dX9_law_23 : decode cX9_law 23 = .ok (.getfield 108, 3) := by decide +kernel
theorem dX9_law_26 : decode cX9_law 26 = .ok (.aload_n 0, 1) := by decide +kernel
theorem dX9_law_27 : decode cX9_law 27 = .ok (.getfield 12, 3) := by decide +kernel
theorem dX9_law_30 : decode cX9_law 30 = .ok (.invokevirtual 118, 3) := by decide +kernel
theorem dX9_law_33 : decode cX9_law 33 = .ok (.aload_n 0, 1) := by decide +kernel
theorem dX9_law_34 : decode cX9_law 34 = .ok (.getfield 12, 3) := by decide +kernel
theorem dX9_law_37 : decode cX9_law 37 = .ok (.iconst 0, 1) := by decide +kernel
theorem dX9_law_38 : decode cX9_law 38 = .ok (.putfield 80, 3) := by decide +kernel
theorem dX9_law_41 : decode cX9_law 41 = .ok (.iload_n 1, 1) := by decide +kernel
theorem dX9_law_42 : decode cX9_law 42 = .ok (.ifCond .ge 7, 3) := by decide +kernel
theorem dX9_law_45 : decode cX9_law 45 = .ok (.iconst 0, 1) := by decide +kernel
theorem dX9_law_46 : decode cX9_law 46 = .ok (.goto 6, 3) := by decide +kernel
theorem dX9_law_49 : decode cX9_law 49 = .ok (.iconst (-1), 1) := by decide +kernel
theorem dX9_law_50 : decode cX9_law 50 = .ok (.iload_n 1, 1) := by decide +kernel
theorem dX9_law_51 : decode cX9_law 51 = .ok (.isub, 1) := by decide +kernel
theorem dX9_law_52 : decode cX9_law 52 = .ok (.ireturn, 1) := by decide +kernel
theorem dX9_of_0 : decode cX9_of 0 = .ok (.aload_n 0, 1) := by decide +kernel
theorem dX9_of_1 : decode cX9_of 1 = .ok (.getfield 19, 3) := by decide +kernel
theorem dX9_of_4 : decode cX9_of 4 = .ok (.iload_n 1, 1) := by decide +kernel
theorem dX9_of_5 : decode cX9_of 5 = .ok (.invokevirtual 122, 3) := by decide +kernel
theorem dX9_of_8 : decode cX9_of 8 = .ok (.ifCond .ne 11, 3) := by decide +kernel
theorem dX9_of_11 : decode cX9_of 11 = .ok (.new 126, 3) := by decide +kernel
theorem dX9_of_14 : decode cX9_of 14 = .ok (.dup, 1) := by decide +kernel
theorem dX9_of_15 : decode cX9_of 15 = .ok (.invokespecial 128, 3) := by decide +kernel
theorem dX9_of_18 : decode cX9_of 18 = .ok (.athrow, 1) := by decide +kernel
theorem dX9_of_19 : decode cX9_of 19 = .ok (.iload_n 2, 1) := by decide +kernel
theorem dX9_of_20 : decode cX9_of 20 = .ok (.tableswitch 102 0 5 #[40, 50, 60, 70, 80, 92], 40) := by decide +kernel
theorem dX9_of_60 : decode cX9_of 60 = .ok (.aload_n 0, 1) := by decide +kernel
theorem dX9_of_61 : decode cX9_of 61 = .ok (.getfield 19, 3) := by decide +kernel
theorem dX9_of_64 : decode cX9_of 64 = .ok (.getfield 129, 3) := by decide +kernel
theorem dX9_of_67 : decode cX9_of 67 = .ok (.iload_n 1, 1) := by decide +kernel
theorem dX9_of_68 : decode cX9_of 68 = .ok (.iaload, 1) := by decide +kernel
theorem dX9_of_69 : decode cX9_of 69 = .ok (.ireturn, 1) := by decide +kernel
theorem dX9_of_70 : decode cX9_of 70 = .ok (.aload_n 0, 1) := by decide +kernel
theorem dX9_of_71 : decode cX9_of 71 = .ok (.getfield 26, 3) := by decide +kernel
theorem dX9_of_74 : decode cX9_of 74 = .ok (.getfield 133, 3) := by decide +kernel
theorem dX9_of_77 : decode cX9_of 77 = .ok (.iload_n 1, 1) := by decide +kernel
theorem dX9_of_78 : decode cX9_of 78 = .ok (.iaload, 1) := by decide +kernel
theorem dX9_of_79 : decode cX9_of 79 = .ok (.ireturn, 1) := by decide +kernel
theorem dX9_of_80 : decode cX9_of 80 = .ok (.aload_n 0, 1) := by decide +kernel
theorem dX9_of_81 : decode cX9_of 81 = .ok (.getfield 19, 3) := by decide +kernel
theorem dX9_of_84 : decode cX9_of 84 = .ok (.getfield 136, 3) := by decide +kernel
theorem dX9_of_87 : decode cX9_of 87 = .ok (.iload_n 1, 1) := by decide +kernel
theorem dX9_of_88 : decode cX9_of 88 = .ok (.iaload, 1) := by decide +kernel
theorem dX9_of_89 : decode cX9_of 89 = .ok (.ireturn, 1) := by decide +kernel
theorem dX9_of_90 : decode cX9_of 90 = .ok (.aload_n 0, 1) := by decide +kernel
theorem dX9_of_91 : decode cX9_of 91 = .ok (.getfield 26, 3) := by decide +kernel
theorem dX9_of_94 : decode cX9_of 94 = .ok (.getfield 139, 3) := by decide +kernel
theorem dX9_of_97 : decode cX9_of 97 = .ok (.iload_n 1, 1) := by decide +kernel
theorem dX9_of_98 : decode cX9_of 98 = .ok (.iaload, 1) := by decide +kernel
theorem dX9_of_99 : decode cX9_of 99 = .ok (.ireturn, 1) := by decide +kernel
theorem dX9_of_100 : decode cX9_of 100 = .ok (.aload_n 0, 1) := by decide +kernel
theorem dX9_of_101 : decode cX9_of 101 = .ok (.getfield 26, 3) := by decide +kernel
theorem dX9_of_104 : decode cX9_of 104 = .ok (.getfield 142, 3) := by decide +kernel
theorem dX9_of_107 : decode cX9_of 107 = .ok (.iload_n 1, 1) := by decide +kernel
theorem dX9_of_108 : decode cX9_of 108 = .ok (.ishr, 1) := by decide +kernel
theorem dX9_of_109 : decode cX9_of 109 = .ok (.iconst 1, 1) := by decide +kernel
theorem dX9_of_110 : decode cX9_of 110 = .ok (.iand, 1) := by decide +kernel
theorem dX9_of_111 : decode cX9_of 111 = .ok (.ireturn, 1) := by decide +kernel
theorem dX9_of_112 : decode cX9_of 112 = .ok (.aload_n 0, 1) := by decide +kernel
theorem dX9_of_113 : decode cX9_of 113 = .ok (.getfield 26, 3) := by decide +kernel
theorem dX9_of_116 : decode cX9_of 116 = .ok (.getfield 145, 3) := by decide +kernel
theorem dX9_of_119 : decode cX9_of 119 = .ok (.iload_n 1, 1) := by decide +kernel
theorem dX9_of_120 : decode cX9_of 120 = .ok (.iaload, 1) := by decide +kernel
theorem dX9_of_121 : decode cX9_of 121 = .ok (.ireturn, 1) := by decide +kernel
theorem dX9_of_122 : decode cX9_of 122 = .ok (.new 126, 3) := by decide +kernel
theorem dX9_of_125 : decode cX9_of 125 = .ok (.dup, 1) := by decide +kernel
theorem dX9_of_126 : decode cX9_of 126 = .ok (.invokespecial 128, 3) := by decide +kernel
theorem dX9_of_129 : decode cX9_of 129 = .ok (.athrow, 1) := by decide +kernel
theorem dX9_set_0 : decode cX9_set 0 = .ok (.aload_n 0, 1) := by decide +kernel
theorem dX9_set_1 : decode cX9_set 1 = .ok (.getfield 19, 3) := by decide +kernel
theorem dX9_set_4 : decode cX9_set 4 = .ok (.iload_n 2, 1) := by decide +kernel
theorem dX9_set_5 : decode cX9_set 5 = .ok (.invokevirtual 122, 3) := by decide +kernel
theorem dX9_set_8 : decode cX9_set 8 = .ok (.ifCond .ne 5, 3) := by decide +kernel
theorem dX9_set_11 : decode cX9_set 11 = .ok (.iconst 0, 1) := by decide +kernel
theorem dX9_set_12 : decode cX9_set 12 = .ok (.ireturn, 1) := by decide +kernel
theorem dX9_set_13 : decode cX9_set 13 = .ok (.iload_n 1, 1) := by decide +kernel
theorem dX9_set_14 : decode cX9_set 14 = .ok (.ifCond .ne 26, 3) := by decide +kernel
theorem dX9_set_17 : decode cX9_set 17 = .ok (.aload_n 0, 1) := by decide +kernel
theorem dX9_set_18 : decode cX9_set 18 = .ok (.getfield 19, 3) := by decide +kernel
theorem dX9_set_21 : decode cX9_set 21 = .ok (.iload_n 3, 1) := by decide +kernel
theorem dX9_set_22 : decode cX9_set 22 = .ok (.invokevirtual 148, 3) := by decide +kernel
theorem dX9_set_25 : decode cX9_set 25 = .ok (.ifCond .eq 15, 3) := by decide +kernel
theorem dX9_set_28 : decode cX9_set 28 = .ok (.aload_n 0, 1) := by decide +kernel
theorem dX9_set_29 : decode cX9_set 29 = .ok (.getfield 19, 3) := by decide +kernel
theorem dX9_set_32 : decode cX9_set 32 = .ok (.getfield 129, 3) := by decide +kernel
theorem dX9_set_35 : decode cX9_set 35 = .ok (.iload_n 2, 1) := by decide +kernel
theorem dX9_set_36 : decode cX9_set 36 = .ok (.iload_n 3, 1) := by decide +kernel
theorem dX9_set_37 : decode cX9_set 37 = .ok (.iastore, 1) := by decide +kernel
theorem dX9_set_38 : decode cX9_set 38 = .ok (.iconst 1, 1) := by decide +kernel
theorem dX9_set_39 : decode cX9_set 39 = .ok (.ireturn, 1) := by decide +kernel
theorem dX9_set_40 : decode cX9_set 40 = .ok (.iload_n 1, 1) := by decide +kernel
theorem dX9_set_41 : decode cX9_set 41 = .ok (.iconst 1, 1) := by decide +kernel
theorem dX9_set_42 : decode cX9_set 42 = .ok (.if_icmp .ne 26, 3) := by decide +kernel
theorem dX9_set_45 : decode cX9_set 45 = .ok (.aload_n 0, 1) := by decide +kernel
theorem dX9_set_46 : decode cX9_set 46 = .ok (.getfield 19, 3) := by decide +kernel
theorem dX9_set_49 : decode cX9_set 49 = .ok (.iload_n 3, 1) := by decide +kernel
theorem dX9_set_50 : decode cX9_set 50 = .ok (.invokevirtual 151, 3) := by decide +kernel
theorem dX9_set_53 : decode cX9_set 53 = .ok (.ifCond .eq 15, 3) := by decide +kernel
theorem dX9_set_56 : decode cX9_set 56 = .ok (.aload_n 0, 1) := by decide +kernel
theorem dX9_set_57 : decode cX9_set 57 = .ok (.getfield 26, 3) := by decide +kernel
theorem dX9_set_60 : decode cX9_set 60 = .ok (.getfield 133, 3) := by decide +kernel
theorem dX9_set_63 : decode cX9_set 63 = .ok (.iload_n 2, 1) := by decide +kernel
theorem dX9_set_64 : decode cX9_set 64 = .ok (.iload_n 3, 1) := by decide +kernel
theorem dX9_set_65 : decode cX9_set 65 = .ok (.iastore, 1) := by decide +kernel
theorem dX9_set_66 : decode cX9_set 66 = .ok (.iconst 1, 1) := by decide +kernel
theorem dX9_set_67 : decode cX9_set 67 = .ok (.ireturn, 1) := by decide +kernel
theorem dX9_set_68 : decode cX9_set 68 = .ok (.iload_n 1, 1) := by decide +kernel
theorem dX9_set_69 : decode cX9_set 69 = .ok (.iconst 2, 1) := by decide +kernel
theorem dX9_set_70 : decode cX9_set 70 = .ok (.if_icmp .ne 25, 3) := by decide +kernel
theorem dX9_set_73 : decode cX9_set 73 = .ok (.iload_n 3, 1) := by decide +kernel
theorem dX9_set_74 : decode cX9_set 74 = .ok (.ifCond .lt 21, 3) := by decide +kernel
theorem dX9_set_77 : decode cX9_set 77 = .ok (.iload_n 3, 1) := by decide +kernel
theorem dX9_set_78 : decode cX9_set 78 = .ok (.bipush 10, 2) := by decide +kernel
theorem dX9_set_80 : decode cX9_set 80 = .ok (.if_icmp .gt 15, 3) := by decide +kernel
theorem dX9_set_83 : decode cX9_set 83 = .ok (.aload_n 0, 1) := by decide +kernel
theorem dX9_set_84 : decode cX9_set 84 = .ok (.getfield 19, 3) := by decide +kernel
theorem dX9_set_87 : decode cX9_set 87 = .ok (.getfield 136, 3) := by decide +kernel
theorem dX9_set_90 : decode cX9_set 90 = .ok (.iload_n 2, 1) := by decide +kernel
theorem dX9_set_91 : decode cX9_set 91 = .ok (.iload_n 3, 1) := by decide +kernel
theorem dX9_set_92 : decode cX9_set 92 = .ok (.iastore, 1) := by decide +kernel
theorem dX9_set_93 : decode cX9_set 93 = .ok (.iconst 1, 1) := by decide +kernel
theorem dX9_set_94 : decode cX9_set 94 = .ok (.ireturn, 1) := by decide +kernel
theorem dX9_set_95 : decode cX9_set 95 = .ok (.iconst 0, 1) := by decide +kernel
theorem dX9_set_96 : decode cX9_set 96 = .ok (.ireturn, 1) := by decide +kernel
theorem dX9_sheet_0 : decode cX9_sheet 0 = .ok (.iload_n 1, 1) := by decide +kernel
theorem dX9_sheet_1 : decode cX9_sheet 1 = .ok (.ifCond .lt 14, 3) := by decide +kernel
theorem dX9_sheet_4 : decode cX9_sheet 4 = .ok (.iload_n 1, 1) := by decide +kernel
theorem dX9_sheet_5 : decode cX9_sheet 5 = .ok (.iconst 3, 1) := by decide +kernel
theorem dX9_sheet_6 : decode cX9_sheet 6 = .ok (.if_icmp .gt 9, 3) := by decide +kernel
theorem dX9_sheet_9 : decode cX9_sheet 9 = .ok (.iload_n 2, 1) := by decide +kernel
theorem dX9_sheet_10 : decode cX9_sheet 10 = .ok (.bipush 10, 2) := by decide +kernel
theorem dX9_sheet_12 : decode cX9_sheet 12 = .ok (.if_icmp .le 5, 3) := by decide +kernel
theorem dX9_sheet_15 : decode cX9_sheet 15 = .ok (.iconst (-1), 1) := by decide +kernel
theorem dX9_sheet_16 : decode cX9_sheet 16 = .ok (.ireturn, 1) := by decide +kernel
theorem dX9_sheet_17 : decode cX9_sheet 17 = .ok (.iload_n 1, 1) := by decide +kernel
theorem dX9_sheet_18 : decode cX9_sheet 18 = .ok (.iconst 3, 1) := by decide +kernel
theorem dX9_sheet_19 : decode cX9_sheet 19 = .ok (.if_icmp .eq 10, 3) := by decide +kernel
theorem dX9_sheet_22 : decode cX9_sheet 22 = .ok (.iload_n 2, 1) := by decide +kernel
theorem dX9_sheet_23 : decode cX9_sheet 23 = .ok (.ifCond .ge 6, 3) := by decide +kernel
theorem dX9_sheet_26 : decode cX9_sheet 26 = .ok (.bipush (-2), 2) := by decide +kernel
theorem dX9_sheet_28 : decode cX9_sheet 28 = .ok (.ireturn, 1) := by decide +kernel
theorem dX9_sheet_29 : decode cX9_sheet 29 = .ok (.iload_n 1, 1) := by decide +kernel
theorem dX9_sheet_30 : decode cX9_sheet 30 = .ok (.iconst 3, 1) := by decide +kernel
theorem dX9_sheet_31 : decode cX9_sheet 31 = .ok (.if_icmp .ne 7, 3) := by decide +kernel
theorem dX9_sheet_34 : decode cX9_sheet 34 = .ok (.iconst 0, 1) := by decide +kernel
theorem dX9_sheet_35 : decode cX9_sheet 35 = .ok (.goto 4, 3) := by decide +kernel
theorem dX9_sheet_38 : decode cX9_sheet 38 = .ok (.iload_n 2, 1) := by decide +kernel
theorem dX9_sheet_39 : decode cX9_sheet 39 = .ok (.istore 5, 2) := by decide +kernel
theorem dX9_sheet_41 : decode cX9_sheet 41 = .ok (.iload_n 3, 1) := by decide +kernel
theorem dX9_sheet_42 : decode cX9_sheet 42 = .ok (.istore 6, 2) := by decide +kernel
theorem dX9_sheet_44 : decode cX9_sheet 44 = .ok (.iconst 0, 1) := by decide +kernel
theorem dX9_sheet_45 : decode cX9_sheet 45 = .ok (.istore 7, 2) := by decide +kernel
theorem dX9_sheet_47 : decode cX9_sheet 47 = .ok (.iconst 0, 1) := by decide +kernel
theorem dX9_sheet_48 : decode cX9_sheet 48 = .ok (.istore 8, 2) := by decide +kernel
theorem dX9_sheet_50 : decode cX9_sheet 50 = .ok (.iload 8, 2) := by decide +kernel
theorem dX9_sheet_52 : decode cX9_sheet 52 = .ok (.aload_n 0, 1) := by decide +kernel
theorem dX9_sheet_53 : decode cX9_sheet 53 = .ok (.getfield 19, 3) := by decide +kernel
theorem dX9_sheet_56 : decode cX9_sheet 56 = .ok (.getfield 154, 3) := by decide +kernel
theorem dX9_sheet_59 : decode cX9_sheet 59 = .ok (.if_icmp .ge 87, 3) := by decide +kernel
theorem dX9_sheet_62 : decode cX9_sheet 62 = .ok (.iload 8, 2) := by decide +kernel
theorem dX9_sheet_64 : decode cX9_sheet 64 = .ok (.iload 5, 2) := by decide +kernel
theorem dX9_sheet_66 : decode cX9_sheet 66 = .ok (.if_icmp .ge 12, 3) := by decide +kernel
theorem dX9_sheet_69 : decode cX9_sheet 69 = .ok (.iload_n 1, 1) := by decide +kernel
theorem dX9_sheet_70 : decode cX9_sheet 70 = .ok (.iload 6, 2) := by decide +kernel
theorem dX9_sheet_72 : decode cX9_sheet 72 = .ok (.invokestatic 157, 3) := by decide +kernel
theorem dX9_sheet_75 : decode cX9_sheet 75 = .ok (.goto 4, 3) := by decide +kernel
theorem dX9_sheet_78 : decode cX9_sheet 78 = .ok (.iconst (-1), 1) := by decide +kernel
theorem dX9_sheet_79 : decode cX9_sheet 79 = .ok (.istore 9, 2) := by decide +kernel
theorem dX9_sheet_81 : decode cX9_sheet 81 = .ok (.aload_n 0, 1) := by decide +kernel
theorem dX9_sheet_82 : decode cX9_sheet 82 = .ok (.getfield 26, 3) := by decide +kernel
theorem dX9_sheet_85 : decode cX9_sheet 85 = .ok (.getfield 133, 3) := by decide +kernel
theorem dX9_sheet_88 : decode cX9_sheet 88 = .ok (.iload 8, 2) := by decide +kernel
theorem dX9_sheet_90 : decode cX9_sheet 90 = .ok (.aload_n 0, 1) := by decide +kernel
theorem dX9_sheet_91 : decode cX9_sheet 91 = .ok (.getfield 19, 3) := by decide +kernel
theorem dX9_sheet_94 : decode cX9_sheet 94 = .ok (.iload 9, 2) := by decide +kernel
theorem dX9_sheet_96 : decode cX9_sheet 96 = .ok (.invokevirtual 148, 3) := by decide +kernel
theorem dX9_sheet_99 : decode cX9_sheet 99 = .ok (.ifCond .eq 8, 3) := by decide +kernel
theorem dX9_sheet_102 : decode cX9_sheet 102 = .ok (.iload 9, 2) := by decide +kernel
theorem dX9_sheet_104 : decode cX9_sheet 104 = .ok (.goto 4, 3) := by decide +kernel
theorem dX9_sheet_107 : decode cX9_sheet 107 = .ok (.iconst (-1), 1) := by decide +kernel
theorem dX9_sheet_108 : decode cX9_sheet 108 = .ok (.iastore, 1) := by decide +kernel
theorem dX9_sheet_109 : decode cX9_sheet 109 = .ok (.iload 7, 2) := by decide +kernel
theorem dX9_sheet_111 : decode cX9_sheet 111 = .ok (.aload_n 0, 1) := by decide +kernel
theorem dX9_sheet_112 : decode cX9_sheet 112 = .ok (.getfield 26, 3) := by decide +kernel
theorem dX9_sheet_115 : decode cX9_sheet 115 = .ok (.getfield 133, 3) := by decide +kernel
theorem dX9_sheet_118 : decode cX9_sheet 118 = .ok (.iload 8, 2) := by decide +kernel
theorem dX9_sheet_120 : decode cX9_sheet 120 = .ok (.iaload, 1) := by decide +kernel
theorem dX9_sheet_121 : decode cX9_sheet 121 = .ok (.iconst (-1), 1) := by decide +kernel
theorem dX9_sheet_122 : decode cX9_sheet 122 = .ok (.if_icmp .ne 7, 3) := by decide +kernel
theorem dX9_sheet_125 : decode cX9_sheet 125 = .ok (.iconst 0, 1) := by decide +kernel
theorem dX9_sheet_126 : decode cX9_sheet 126 = .ok (.goto 4, 3) := by decide +kernel
theorem dX9_sheet_129 : decode cX9_sheet 129 = .ok (.iconst 1, 1) := by decide +kernel
theorem dX9_sheet_130 : decode cX9_sheet 130 = .ok (.iadd, 1) := by decide +kernel
theorem dX9_sheet_131 : decode cX9_sheet 131 = .ok (.istore 7, 2) := by decide +kernel
theorem dX9_sheet_133 : decode cX9_sheet 133 = .ok (.iload 6, 2) := by decide +kernel
theorem dX9_sheet_135 : decode cX9_sheet 135 = .ok (.iload 4, 2) := by decide +kernel
theorem dX9_sheet_137 : decode cX9_sheet 137 = .ok (.iadd, 1) := by decide +kernel
theorem dX9_sheet_138 : decode cX9_sheet 138 = .ok (.istore 6, 2) := by decide +kernel
theorem dX9_sheet_140 : decode cX9_sheet 140 = .ok (.iinc 8 1, 3) := by decide +kernel
theorem dX9_sheet_143 : decode cX9_sheet 143 = .ok (.goto (-93), 3) := by decide +kernel
theorem dX9_sheet_146 : decode cX9_sheet 146 = .ok (.iload_n 1, 1) := by decide +kernel
theorem dX9_sheet_147 : decode cX9_sheet 147 = .ok (.iconst 3, 1) := by decide +kernel
theorem dX9_sheet_148 : decode cX9_sheet 148 = .ok (.if_icmp .ne 8, 3) := by decide +kernel
theorem dX9_sheet_151 : decode cX9_sheet 151 = .ok (.bipush (-3), 2) := by decide +kernel
theorem dX9_sheet_153 : decode cX9_sheet 153 = .ok (.goto 5, 3) := by decide +kernel
theorem dX9_sheet_156 : decode cX9_sheet 156 = .ok (.iload 7, 2) := by decide +kernel
theorem dX9_sheet_158 : decode cX9_sheet 158 = .ok (.ireturn, 1) := by decide +kernel
theorem dX9_dog_0 : decode cX9_dog 0 = .ok (.iload_n 1, 1) := by decide +kernel
theorem dX9_dog_1 : decode cX9_dog 1 = .ok (.iconst (-1), 1) := by decide +kernel
theorem dX9_dog_2 : decode cX9_dog 2 = .ok (.if_icmp .eq 16, 3) := by decide +kernel
theorem dX9_dog_5 : decode cX9_dog 5 = .ok (.aload_n 0, 1) := by decide +kernel
theorem dX9_dog_6 : decode cX9_dog 6 = .ok (.getfield 19, 3) := by decide +kernel
theorem dX9_dog_9 : decode cX9_dog 9 = .ok (.iload_n 1, 1) := by decide +kernel
theorem dX9_dog_10 : decode cX9_dog 10 = .ok (.invokevirtual 148, 3) := by decide +kernel
theorem dX9_dog_13 : decode cX9_dog 13 = .ok (.ifCond .ne 5, 3) := by decide +kernel
theorem dX9_dog_16 : decode cX9_dog 16 = .ok (.iconst 0, 1) := by decide +kernel
theorem dX9_dog_17 : decode cX9_dog 17 = .ok (.ireturn, 1) := by decide +kernel
theorem dX9_dog_18 : decode cX9_dog 18 = .ok (.aload_n 0, 1) := by decide +kernel
theorem dX9_dog_19 : decode cX9_dog 19 = .ok (.getfield 19, 3) := by decide +kernel
theorem dX9_dog_22 : decode cX9_dog 22 = .ok (.iload_n 1, 1) := by decide +kernel
theorem dX9_dog_23 : decode cX9_dog 23 = .ok (.putfield 161, 3) := by decide +kernel
theorem dX9_dog_26 : decode cX9_dog 26 = .ok (.iconst 1, 1) := by decide +kernel
theorem dX9_dog_27 : decode cX9_dog 27 = .ok (.ireturn, 1) := by decide +kernel
theorem dX9_crowd_0 : decode cX9_crowd 0 = .ok (.iload_n 2, 1) := by decide +kernel
theorem dX9_crowd_1 : decode cX9_crowd 1 = .ok (.ifCond .lt 9, 3) := by decide +kernel
theorem dX9_crowd_4 : decode cX9_crowd 4 = .ok (.iload_n 2, 1) := by decide +kernel
theorem dX9_crowd_5 : decode cX9_crowd 5 = .ok (.bipush 10, 2) := by decide +kernel
theorem dX9_crowd_7 : decode cX9_crowd 7 = .ok (.if_icmp .le 5, 3) := by decide +kernel
theorem dX9_crowd_10 : decode cX9_crowd 10 = .ok (.iconst (-1), 1) := by decide +kernel
theorem dX9_crowd_11 : decode cX9_crowd 11 = .ok (.ireturn, 1) := by decide +kernel
theorem dX9_crowd_12 : decode cX9_crowd 12 = .ok (.aload_n 0, 1) := by decide +kernel
theorem dX9_crowd_13 : decode cX9_crowd 13 = .ok (.getfield 19, 3) := by decide +kernel
theorem dX9_crowd_16 : decode cX9_crowd 16 = .ok (.getfield 154, 3) := by decide +kernel
theorem dX9_crowd_19 : decode cX9_crowd 19 = .ok (.istore_n 3, 1) := by decide +kernel
theorem dX9_crowd_20 : decode cX9_crowd 20 = .ok (.iload_n 1, 1) := by decide +kernel
theorem dX9_crowd_21 : decode cX9_crowd 21 = .ok (.istore 4, 2) := by decide +kernel
theorem dX9_crowd_23 : decode cX9_crowd 23 = .ok (.iload_n 3, 1) := by decide +kernel
theorem dX9_crowd_24 : decode cX9_crowd 24 = .ok (.istore 5, 2) := by decide +kernel
theorem dX9_crowd_26 : decode cX9_crowd 26 = .ok (.iload 5, 2) := by decide +kernel
theorem dX9_crowd_28 : decode cX9_crowd 28 = .ok (.iload_n 2, 1) := by decide +kernel
theorem dX9_crowd_29 : decode cX9_crowd 29 = .ok (.if_icmp .ge 61, 3) := by decide +kernel
theorem dX9_crowd_32 : decode cX9_crowd 32 = .ok (.iload 4, 2) := by decide +kernel
theorem dX9_crowd_34 : decode cX9_crowd 34 = .ok (.invokestatic 164, 3) := by decide +kernel
theorem dX9_crowd_37 : decode cX9_crowd 37 = .ok (.istore 4, 2) := by decide +kernel
theorem dX9_crowd_39 : decode cX9_crowd 39 = .ok (.aload_n 0, 1) := by decide +kernel
theorem dX9_crowd_40 : decode cX9_crowd 40 = .ok (.iload 4, 2) := by decide +kernel
theorem dX9_crowd_42 : decode cX9_crowd 42 = .ok (.invokevirtual 168, 3) := by decide +kernel
theorem dX9_crowd_45 : decode cX9_crowd 45 = .ok (.istore 6, 2) := by decide +kernel
theorem dX9_crowd_47 : decode cX9_crowd 47 = .ok (.iload 4, 2) := by decide +kernel
theorem dX9_crowd_49 : decode cX9_crowd 49 = .ok (.invokestatic 164, 3) := by decide +kernel
theorem dX9_crowd_52 : decode cX9_crowd 52 = .ok (.istore 4, 2) := by decide +kernel
theorem dX9_crowd_54 : decode cX9_crowd 54 = .ok (.aload_n 0, 1) := by decide +kernel
theorem dX9_crowd_55 : decode cX9_crowd 55 = .ok (.iload 4, 2) := by decide +kernel
theorem dX9_crowd_57 : decode cX9_crowd 57 = .ok (.invokevirtual 168, 3) := by decide +kernel
theorem dX9_crowd_60 : decode cX9_crowd 60 = .ok (.istore 7, 2) := by decide +kernel
theorem dX9_crowd_62 : decode cX9_crowd 62 = .ok (.iload 4, 2) := by decide +kernel
theorem dX9_crowd_64 : decode cX9_crowd 64 = .ok (.invokestatic 164, 3) := by decide +kernel
theorem dX9_crowd_67 : decode cX9_crowd 67 = .ok (.istore 4, 2) := by decide +kernel
theorem dX9_crowd_69 : decode cX9_crowd 69 = .ok (.aload_n 0, 1) := by decide +kernel
theorem dX9_crowd_70 : decode cX9_crowd 70 = .ok (.iload 6, 2) := by decide +kernel
theorem dX9_crowd_72 : decode cX9_crowd 72 = .ok (.iload 7, 2) := by decide +kernel
theorem dX9_crowd_74 : decode cX9_crowd 74 = .ok (.aload_n 0, 1) := by decide +kernel
theorem dX9_crowd_75 : decode cX9_crowd 75 = .ok (.iload 4, 2) := by decide +kernel
theorem dX9_crowd_77 : decode cX9_crowd 77 = .ok (.invokevirtual 168, 3) := by decide +kernel
theorem dX9_crowd_80 : decode cX9_crowd 80 = .ok (.iconst 0, 1) := by decide +kernel
theorem dX9_crowd_81 : decode cX9_crowd 81 = .ok (.invokevirtual 171, 3) := by decide +kernel
theorem dX9_crowd_84 : decode cX9_crowd 84 = .ok (.iinc 5 1, 3) := by decide +kernel
theorem dX9_crowd_87 : decode cX9_crowd 87 = .ok (.goto (-61), 3) := by decide +kernel
theorem dX9_crowd_90 : decode cX9_crowd 90 = .ok (.aload_n 0, 1) := by decide +kernel
theorem dX9_crowd_91 : decode cX9_crowd 91 = .ok (.getfield 19, 3) := by decide +kernel
theorem dX9_crowd_94 : decode cX9_crowd 94 = .ok (.getfield 154, 3) := by decide +kernel
theorem dX9_crowd_97 : decode cX9_crowd 97 = .ok (.iload_n 3, 1) := by decide +kernel
theorem dX9_crowd_98 : decode cX9_crowd 98 = .ok (.isub, 1) := by decide +kernel
theorem dX9_crowd_99 : decode cX9_crowd 99 = .ok (.istore 5, 2) := by decide +kernel
theorem dX9_crowd_101 : decode cX9_crowd 101 = .ok (.iload 5, 2) := by decide +kernel
theorem dX9_crowd_103 : decode cX9_crowd 103 = .ok (.ifCond .le 7, 3) := by decide +kernel
theorem dX9_crowd_106 : decode cX9_crowd 106 = .ok (.aload_n 0, 1) := by decide +kernel
theorem dX9_crowd_107 : decode cX9_crowd 107 = .ok (.invokevirtual 94, 3) := by decide +kernel
theorem dX9_crowd_110 : decode cX9_crowd 110 = .ok (.iload 5, 2) := by decide +kernel
theorem dX9_crowd_112 : decode cX9_crowd 112 = .ok (.ireturn, 1) := by decide +kernel
theorem dX9_enter_0 : decode cX9_enter 0 = .ok (.aload_n 0, 1) := by decide +kernel
theorem dX9_enter_1 : decode cX9_enter 1 = .ok (.getfield 26, 3) := by decide +kernel
theorem dX9_enter_4 : decode cX9_enter 4 = .ok (.iload_n 1, 1) := by decide +kernel
theorem dX9_enter_5 : decode cX9_enter 5 = .ok (.invokevirtual 175, 3) := by decide +kernel
theorem dX9_enter_8 : decode cX9_enter 8 = .ok (.ifCond .ne 5, 3) := by decide +kernel
theorem dX9_enter_11 : decode cX9_enter 11 = .ok (.iconst 0, 1) := by decide +kernel
theorem dX9_enter_12 : decode cX9_enter 12 = .ok (.ireturn, 1) := by decide +kernel
theorem dX9_enter_13 : decode cX9_enter 13 = .ok (.aload_n 0, 1) := by decide +kernel
theorem dX9_enter_14 : decode cX9_enter 14 = .ok (.getfield 36, 3) := by decide +kernel
theorem dX9_enter_17 : decode cX9_enter 17 = .ok (.aload_n 0, 1) := by decide +kernel
theorem dX9_enter_18 : decode cX9_enter 18 = .ok (.getfield 26, 3) := by decide +kernel
theorem dX9_enter_21 : decode cX9_enter 21 = .ok (.invokevirtual 178, 3) := by decide +kernel
theorem dX9_enter_24 : decode cX9_enter 24 = .ok (.aload_n 0, 1) := by decide +kernel
theorem dX9_enter_25 : decode cX9_enter 25 = .ok (.getfield 26, 3) := by decide +kernel
theorem dX9_enter_28 : decode cX9_enter 28 = .ok (.dup, 1) := by decide +kernel
theorem dX9_enter_29 : decode cX9_enter 29 = .ok (.getfield 142, 3) := by decide +kernel
theorem dX9_enter_32 : decode cX9_enter 32 = .ok (.iconst 1, 1) := by decide +kernel
theorem dX9_enter_33 : decode cX9_enter 33 = .ok (.iload_n 1, 1) := by decide +kernel
theorem dX9_enter_34 : decode cX9_enter 34 = .ok (.ishl, 1) := by decide +kernel
theorem dX9_enter_35 : decode cX9_enter 35 = .ok (.ior, 1) := by decide +kernel
theorem dX9_enter_36 : decode cX9_enter 36 = .ok (.putfield 142, 3) := by decide +kernel
theorem dX9_enter_39 : decode cX9_enter 39 = .ok (.aload_n 0, 1) := by decide +kernel
theorem dX9_enter_40 : decode cX9_enter 40 = .ok (.getfield 36, 3) := by decide +kernel
theorem dX9_enter_43 : decode cX9_enter 43 = .ok (.invokevirtual 182, 3) := by decide +kernel
theorem dX9_enter_46 : decode cX9_enter 46 = .ok (.iconst 1, 1) := by decide +kernel
theorem dX9_enter_47 : decode cX9_enter 47 = .ok (.ireturn, 1) := by decide +kernel
theorem dX9_leave_0 : decode cX9_leave 0 = .ok (.aload_n 0, 1) := by decide +kernel
theorem dX9_leave_1 : decode cX9_leave 1 = .ok (.getfield 26, 3) := by decide +kernel
theorem dX9_leave_4 : decode cX9_leave 4 = .ok (.iload_n 1, 1) := by decide +kernel
theorem dX9_leave_5 : decode cX9_leave 5 = .ok (.invokevirtual 185, 3) := by decide +kernel
theorem dX9_leave_8 : decode cX9_leave 8 = .ok (.ifCond .ne 5, 3) := by decide +kernel
theorem dX9_leave_11 : decode cX9_leave 11 = .ok (.iconst 0, 1) := by decide +kernel
theorem dX9_leave_12 : decode cX9_leave 12 = .ok (.ireturn, 1) := by decide +kernel
theorem dX9_leave_13 : decode cX9_leave 13 = .ok (.aload_n 0, 1) := by decide +kernel
theorem dX9_leave_14 : decode cX9_leave 14 = .ok (.getfield 36, 3) := by decide +kernel
theorem dX9_leave_17 : decode cX9_leave 17 = .ok (.aload_n 0, 1) := by decide +kernel
theorem dX9_leave_18 : decode cX9_leave 18 = .ok (.getfield 26, 3) := by decide +kernel
theorem dX9_leave_21 : decode cX9_leave 21 = .ok (.invokevirtual 178, 3) := by decide +kernel
theorem dX9_leave_24 : decode cX9_leave 24 = .ok (.aload_n 0, 1) := by decide +kernel
theorem dX9_leave_25 : decode cX9_leave 25 = .ok (.getfield 26, 3) := by decide +kernel
theorem dX9_leave_28 : decode cX9_leave 28 = .ok (.dup, 1) := by decide +kernel
theorem dX9_leave_29 : decode cX9_leave 29 = .ok (.getfield 142, 3) := by decide +kernel
theorem dX9_leave_32 : decode cX9_leave 32 = .ok (.iconst 1, 1) := by decide +kernel
theorem dX9_leave_33 : decode cX9_leave 33 = .ok (.iload_n 1, 1) := by decide +kernel
theorem dX9_leave_34 : decode cX9_leave 34 = .ok (.ishl, 1) := by decide +kernel
theorem dX9_leave_35 : decode cX9_leave 35 = .ok (.iconst (-1), 1) := by decide +kernel
theorem dX9_leave_36 : decode cX9_leave 36 = .ok (.ixor, 1) := by decide +kernel
theorem dX9_leave_37 : decode cX9_leave 37 = .ok (.iand, 1) := by decide +kernel
theorem dX9_leave_38 : decode cX9_leave 38 = .ok (.putfield 142, 3) := by decide +kernel
theorem dX9_leave_41 : decode cX9_leave 41 = .ok (.aload_n 0, 1) := by decide +kernel
theorem dX9_leave_42 : decode cX9_leave 42 = .ok (.getfield 36, 3) := by decide +kernel
theorem dX9_leave_45 : decode cX9_leave 45 = .ok (.invokevirtual 182, 3) := by decide +kernel
theorem dX9_leave_48 : decode cX9_leave 48 = .ok (.iconst 1, 1) := by decide +kernel
theorem dX9_leave_49 : decode cX9_leave 49 = .ok (.ireturn, 1) := by decide +kernel
theorem dX9_ride_0 : decode cX9_ride 0 = .ok (.aload_n 0, 1) := by decide +kernel
theorem dX9_ride_1 : decode cX9_ride 1 = .ok (.getfield 36, 3) := by decide +kernel
theorem dX9_ride_4 : decode cX9_ride 4 = .ok (.aload_n 0, 1) := by decide +kernel
theorem dX9_ride_5 : decode cX9_ride 5 = .ok (.getfield 26, 3) := by decide +kernel
theorem dX9_ride_8 : decode cX9_ride 8 = .ok (.invokevirtual 178, 3) := by decide +kernel
theorem dX9_ride_11 : decode cX9_ride 11 = .ok (.aload_n 0, 1) := by decide +kernel
theorem dX9_ride_12 : decode cX9_ride 12 = .ok (.getfield 19, 3) := by decide +kernel
theorem dX9_ride_15 : decode cX9_ride 15 = .ok (.aload_n 0, 1) := by decide +kernel
theorem dX9_ride_16 : decode cX9_ride 16 = .ok (.getfield 26, 3) := by decide +kernel
theorem dX9_ride_19 : decode cX9_ride 19 = .ok (.invokevirtual 188, 3) := by decide +kernel
theorem dX9_ride_22 : decode cX9_ride 22 = .ok (.istore_n 1, 1) := by decide +kernel
theorem dX9_ride_23 : decode cX9_ride 23 = .ok (.aload_n 0, 1) := by decide +kernel
theorem dX9_ride_24 : decode cX9_ride 24 = .ok (.getfield 36, 3) := by decide +kernel
theorem dX9_ride_27 : decode cX9_ride 27 = .ok (.invokevirtual 182, 3) := by decide +kernel
theorem dX9_ride_30 : decode cX9_ride 30 = .ok (.aload_n 0, 1) := by decide +kernel
theorem dX9_ride_31 : decode cX9_ride 31 = .ok (.invokevirtual 192, 3) := by decide +kernel
theorem dX9_ride_34 : decode cX9_ride 34 = .ok (.aload_n 0, 1) := by decide +kernel
theorem dX9_ride_35 : decode cX9_ride 35 = .ok (.iload_n 1, 1) := by decide +kernel
theorem dX9_ride_36 : decode cX9_ride 36 = .ok (.i2l, 1) := by decide +kernel
theorem dX9_ride_37 : decode cX9_ride 37 = .ok (.invokevirtual 195, 3) := by decide +kernel
theorem dX9_ride_40 : decode cX9_ride 40 = .ok (.aload_n 0, 1) := by decide +kernel
theorem dX9_ride_41 : decode cX9_ride 41 = .ok (.getfield 26, 3) := by decide +kernel
theorem dX9_ride_44 : decode cX9_ride 44 = .ok (.getfield 97, 3) := by decide +kernel
theorem dX9_ride_47 : decode cX9_ride 47 = .ok (.ireturn, 1) := by decide +kernel
theorem dX9_rides_0 : decode cX9_rides 0 = .ok (.iload_n 1, 1) := by decide +kernel
theorem dX9_rides_1 : decode cX9_rides 1 = .ok (.ifCond .lt 9, 3) := by decide +kernel
theorem dX9_rides_4 : decode cX9_rides 4 = .ok (.iload_n 1, 1) := by decide +kernel
theorem dX9_rides_5 : decode cX9_rides 5 = .ok (.bipush 60, 2) := by decide +kernel
theorem dX9_rides_7 : decode cX9_rides 7 = .ok (.if_icmp .le 5, 3) := by decide +kernel
theorem dX9_rides_10 : decode cX9_rides 10 = .ok (.iconst (-1), 1) := by decide +kernel
theorem dX9_rides_11 : decode cX9_rides 11 = .ok (.ireturn, 1) := by decide +kernel
theorem dX9_rides_12 : decode cX9_rides 12 = .ok (.aload_n 0, 1) := by decide +kernel
theorem dX9_rides_13 : decode cX9_rides 13 = .ok (.getfield 36, 3) := by decide +kernel
theorem dX9_rides_16 : decode cX9_rides 16 = .ok (.aload_n 0, 1) := by decide +kernel
theorem dX9_rides_17 : decode cX9_rides 17 = .ok (.getfield 26, 3) := by decide +kernel
theorem dX9_rides_20 : decode cX9_rides 20 = .ok (.invokevirtual 178, 3) := by decide +kernel
theorem dX9_rides_23 : decode cX9_rides 23 = .ok (.iconst 0, 1) := by decide +kernel
theorem dX9_rides_24 : decode cX9_rides 24 = .ok (.istore_n 2, 1) := by decide +kernel
theorem dX9_rides_25 : decode cX9_rides 25 = .ok (.iconst 0, 1) := by decide +kernel
theorem dX9_rides_26 : decode cX9_rides 26 = .ok (.istore_n 3, 1) := by decide +kernel
theorem dX9_rides_27 : decode cX9_rides 27 = .ok (.iload_n 3, 1) := by decide +kernel
theorem dX9_rides_28 : decode cX9_rides 28 = .ok (.iload_n 1, 1) := by decide +kernel
theorem dX9_rides_29 : decode cX9_rides 29 = .ok (.if_icmp .ge 33, 3) := by decide +kernel
theorem dX9_rides_32 : decode cX9_rides 32 = .ok (.aload_n 0, 1) := by decide +kernel
theorem dX9_rides_33 : decode cX9_rides 33 = .ok (.getfield 26, 3) := by decide +kernel
theorem dX9_rides_36 : decode cX9_rides 36 = .ok (.getfield 142, 3) := by decide +kernel
theorem dX9_rides_39 : decode cX9_rides 39 = .ok (.ifCond .eq 23, 3) := by decide +kernel
theorem dX9_rides_42 : decode cX9_rides 42 = .ok (.iload_n 2, 1) := by decide +kernel
theorem dX9_rides_43 : decode cX9_rides 43 = .ok (.aload_n 0, 1) := by decide +kernel
theorem dX9_rides_44 : decode cX9_rides 44 = .ok (.getfield 19, 3) := by decide +kernel
theorem dX9_rides_47 : decode cX9_rides 47 = .ok (.aload_n 0, 1) := by decide +kernel
theorem dX9_rides_48 : decode cX9_rides 48 = .ok (.getfield 26, 3) := by decide +kernel
theorem dX9_rides_51 : decode cX9_rides 51 = .ok (.invokevirtual 188, 3) := by decide +kernel
theorem dX9_rides_54 : decode cX9_rides 54 = .ok (.ior, 1) := by decide +kernel
theorem dX9_rides_55 : decode cX9_rides 55 = .ok (.istore_n 2, 1) := by decide +kernel
theorem dX9_rides_56 : decode cX9_rides 56 = .ok (.iinc 3 1, 3) := by decide +kernel
theorem dX9_rides_59 : decode cX9_rides 59 = .ok (.goto (-32), 3) := by decide +kernel
theorem dX9_rides_62 : decode cX9_rides 62 = .ok (.iload_n 3, 1) := by decide +kernel
theorem dX9_rides_63 : decode cX9_rides 63 = .ok (.ifCond .le 10, 3) := by decide +kernel
theorem dX9_rides_66 : decode cX9_rides 66 = .ok (.aload_n 0, 1) := by decide +kernel
theorem dX9_rides_67 : decode cX9_rides 67 = .ok (.getfield 36, 3) := by decide +kernel
theorem dX9_rides_70 : decode cX9_rides 70 = .ok (.invokevirtual 182, 3) := by decide +kernel
theorem dX9_rides_73 : decode cX9_rides 73 = .ok (.aload_n 0, 1) := by decide +kernel
theorem dX9_rides_74 : decode cX9_rides 74 = .ok (.invokevirtual 192, 3) := by decide +kernel
theorem dX9_rides_77 : decode cX9_rides 77 = .ok (.aload_n 0, 1) := by decide +kernel
theorem dX9_rides_78 : decode cX9_rides 78 = .ok (.iload_n 2, 1) := by decide +kernel
theorem dX9_rides_79 : decode cX9_rides 79 = .ok (.i2l, 1) := by decide +kernel
theorem dX9_rides_80 : decode cX9_rides 80 = .ok (.invokevirtual 195, 3) := by decide +kernel
theorem dX9_rides_83 : decode cX9_rides 83 = .ok (.aload_n 0, 1) := by decide +kernel
theorem dX9_rides_84 : decode cX9_rides 84 = .ok (.aload_n 0, 1) := by decide +kernel
theorem dX9_rides_85 : decode cX9_rides 85 = .ok (.getfield 26, 3) := by decide +kernel
theorem dX9_rides_88 : decode cX9_rides 88 = .ok (.getfield 97, 3) := by decide +kernel
theorem dX9_rides_91 : decode cX9_rides 91 = .ok (.i2l, 1) := by decide +kernel
theorem dX9_rides_92 : decode cX9_rides 92 = .ok (.invokevirtual 195, 3) := by decide +kernel
theorem dX9_rides_95 : decode cX9_rides 95 = .ok (.iload_n 3, 1) := by decide +kernel
theorem dX9_rides_96 : decode cX9_rides 96 = .ok (.ireturn, 1) := by decide +kernel
theorem dX9_day_0 : decode cX9_day 0 = .ok (.aload_n 0, 1) := by decide +kernel
theorem dX9_day_1 : decode cX9_day 1 = .ok (.getfield 12, 3) := by decide +kernel
theorem dX9_day_4 : decode cX9_day 4 = .ok (.invokestatic 199, 3) := by decide +kernel
theorem dX9_day_7 : decode cX9_day 7 = .ok (.istore_n 1, 1) := by decide +kernel
theorem dX9_day_8 : decode cX9_day 8 = .ok (.iload_n 1, 1) := by decide +kernel
theorem dX9_day_9 : decode cX9_day 9 = .ok (.ifCond .lt 15, 3) := by decide +kernel
theorem dX9_day_12 : decode cX9_day 12 = .ok (.aload_n 0, 1) := by decide +kernel
theorem dX9_day_13 : decode cX9_day 13 = .ok (.getfield 12, 3) := by decide +kernel
theorem dX9_day_16 : decode cX9_day 16 = .ok (.iconst 0, 1) := by decide +kernel
theorem dX9_day_17 : decode cX9_day 17 = .ok (.putfield 80, 3) := by decide +kernel
theorem dX9_day_20 : decode cX9_day 20 = .ok (.iconst (-1), 1) := by decide +kernel
theorem dX9_day_21 : decode cX9_day 21 = .ok (.iload_n 1, 1) := by decide +kernel
theorem dX9_day_22 : decode cX9_day 22 = .ok (.isub, 1) := by decide +kernel
theorem dX9_day_23 : decode cX9_day 23 = .ok (.ireturn, 1) := by decide +kernel
theorem dX9_day_24 : decode cX9_day 24 = .ok (.aload_n 0, 1) := by decide +kernel
theorem dX9_day_25 : decode cX9_day 25 = .ok (.getfield 36, 3) := by decide +kernel
theorem dX9_day_28 : decode cX9_day 28 = .ok (.aload_n 0, 1) := by decide +kernel
theorem dX9_day_29 : decode cX9_day 29 = .ok (.getfield 26, 3) := by decide +kernel
theorem dX9_day_32 : decode cX9_day 32 = .ok (.invokevirtual 178, 3) := by decide +kernel
theorem dX9_day_35 : decode cX9_day 35 = .ok (.aload_n 0, 1) := by decide +kernel
theorem dX9_day_36 : decode cX9_day 36 = .ok (.getfield 69, 3) := by decide +kernel
theorem dX9_day_39 : decode cX9_day 39 = .ok (.aload_n 0, 1) := by decide +kernel
theorem dX9_day_40 : decode cX9_day 40 = .ok (.getfield 19, 3) := by decide +kernel
theorem dX9_day_43 : decode cX9_day 43 = .ok (.aload_n 0, 1) := by decide +kernel
theorem dX9_day_44 : decode cX9_day 44 = .ok (.getfield 26, 3) := by decide +kernel
theorem dX9_day_47 : decode cX9_day 47 = .ok (.aload_n 0, 1) := by decide +kernel
theorem dX9_day_48 : decode cX9_day 48 = .ok (.getfield 12, 3) := by decide +kernel
theorem dX9_day_51 : decode cX9_day 51 = .ok (.invokevirtual 200, 3) := by decide +kernel
theorem dX9_day_54 : decode cX9_day 54 = .ok (.istore_n 2, 1) := by decide +kernel
theorem dX9_day_55 : decode cX9_day 55 = .ok (.aload_n 0, 1) := by decide +kernel
theorem dX9_day_56 : decode cX9_day 56 = .ok (.getfield 69, 3) := by decide +kernel
theorem dX9_day_59 : decode cX9_day 59 = .ok (.getfield 204, 3) := by decide +kernel
theorem dX9_day_62 : decode cX9_day 62 = .ok (.ifCond .le 10, 3) := by decide +kernel
theorem dX9_day_65 : decode cX9_day 65 = .ok (.aload_n 0, 1) := by decide +kernel
theorem dX9_day_66 : decode cX9_day 66 = .ok (.getfield 36, 3) := by decide +kernel
theorem dX9_day_69 : decode cX9_day 69 = .ok (.invokevirtual 182, 3) := by decide +kernel
theorem dX9_day_72 : decode cX9_day 72 = .ok (.aload_n 0, 1) := by decide +kernel
theorem dX9_day_73 : decode cX9_day 73 = .ok (.getfield 12, 3) := by decide +kernel
theorem dX9_day_76 : decode cX9_day 76 = .ok (.iconst 0, 1) := by decide +kernel
theorem dX9_day_77 : decode cX9_day 77 = .ok (.putfield 80, 3) := by decide +kernel
theorem dX9_day_80 : decode cX9_day 80 = .ok (.aload_n 0, 1) := by decide +kernel
theorem dX9_day_81 : decode cX9_day 81 = .ok (.invokevirtual 192, 3) := by decide +kernel
theorem dX9_day_84 : decode cX9_day 84 = .ok (.aload_n 0, 1) := by decide +kernel
theorem dX9_day_85 : decode cX9_day 85 = .ok (.aload_n 0, 1) := by decide +kernel
theorem dX9_day_86 : decode cX9_day 86 = .ok (.getfield 69, 3) := by decide +kernel
theorem dX9_day_89 : decode cX9_day 89 = .ok (.getfield 207, 3) := by decide +kernel
theorem dX9_day_92 : decode cX9_day 92 = .ok (.i2l, 1) := by decide +kernel
theorem dX9_day_93 : decode cX9_day 93 = .ok (.invokevirtual 195, 3) := by decide +kernel
theorem dX9_day_96 : decode cX9_day 96 = .ok (.aload_n 0, 1) := by decide +kernel
theorem dX9_day_97 : decode cX9_day 97 = .ok (.iload_n 2, 1) := by decide +kernel
theorem dX9_day_98 : decode cX9_day 98 = .ok (.ifCond .eq 7, 3) := by decide +kernel
theorem dX9_day_101 : decode cX9_day 101 = .ok (.lconst 0, 1) := by decide +kernel
theorem dX9_day_102 : decode cX9_day 102 = .ok (.goto 4, 3) := by decide +kernel
theorem dX9_day_105 : decode cX9_day 105 = .ok (.lconst 1, 1) := by decide +kernel
theorem dX9_day_106 : decode cX9_day 106 = .ok (.invokevirtual 195, 3) := by decide +kernel
theorem dX9_day_109 : decode cX9_day 109 = .ok (.aload_n 0, 1) := by decide +kernel
theorem dX9_day_110 : decode cX9_day 110 = .ok (.getfield 69, 3) := by decide +kernel
theorem dX9_day_113 : decode cX9_day 113 = .ok (.getfield 210, 3) := by decide +kernel
theorem dX9_day_116 : decode cX9_day 116 = .ok (.ireturn, 1) := by decide +kernel
theorem dX9_undo_0 : decode cX9_undo 0 = .ok (.aload_n 0, 1) := by decide +kernel
theorem dX9_undo_1 : decode cX9_undo 1 = .ok (.getfield 36, 3) := by decide +kernel
theorem dX9_undo_4 : decode cX9_undo 4 = .ok (.aload_n 0, 1) := by decide +kernel
theorem dX9_undo_5 : decode cX9_undo 5 = .ok (.getfield 26, 3) := by decide +kernel
theorem dX9_undo_8 : decode cX9_undo 8 = .ok (.invokevirtual 213, 3) := by decide +kernel
theorem dX9_undo_11 : decode cX9_undo 11 = .ok (.ifCond .eq 13, 3) := by decide +kernel
theorem dX9_undo_14 : decode cX9_undo 14 = .ok (.aload_n 0, 1) := by decide +kernel
theorem dX9_undo_15 : decode cX9_undo 15 = .ok (.getfield 36, 3) := by decide +kernel
theorem dX9_undo_18 : decode cX9_undo 18 = .ok (.getfield 217, 3) := by decide +kernel
theorem dX9_undo_21 : decode cX9_undo 21 = .ok (.goto 4, 3) := by decide +kernel
theorem dX9_undo_24 : decode cX9_undo 24 = .ok (.iconst (-1), 1) := by decide +kernel
theorem dX9_undo_25 : decode cX9_undo 25 = .ok (.ireturn, 1) := by decide +kernel
theorem dX9_stop_0 : decode cX9_stop 0 = .ok (.aload_n 0, 1) := by decide +kernel
theorem dX9_stop_1 : decode cX9_stop 1 = .ok (.getfield 19, 3) := by decide +kernel
theorem dX9_stop_4 : decode cX9_stop 4 = .ok (.aload_n 0, 1) := by decide +kernel
theorem dX9_stop_5 : decode cX9_stop 5 = .ok (.getfield 26, 3) := by decide +kernel
theorem dX9_stop_8 : decode cX9_stop 8 = .ok (.aload_n 0, 1) := by decide +kernel
theorem dX9_stop_9 : decode cX9_stop 9 = .ok (.getfield 26, 3) := by decide +kernel
theorem dX9_stop_12 : decode cX9_stop 12 = .ok (.getfield 142, 3) := by decide +kernel
theorem dX9_stop_15 : decode cX9_stop 15 = .ok (.invokevirtual 218, 3) := by decide +kernel
theorem dX9_stop_18 : decode cX9_stop 18 = .ok (.ireturn, 1) := by decide +kernel
theorem dX9_goes_0 : decode cX9_goes 0 = .ok (.iload_n 1, 1) := by decide +kernel
theorem dX9_goes_1 : decode cX9_goes 1 = .ok (.aload_n 0, 1) := by decide +kernel
theorem dX9_goes_2 : decode cX9_goes 2 = .ok (.getfield 26, 3) := by decide +kernel
theorem dX9_goes_5 : decode cX9_goes 5 = .ok (.aload_n 0, 1) := by decide +kernel
theorem dX9_goes_6 : decode cX9_goes 6 = .ok (.getfield 26, 3) := by decide +kernel
theorem dX9_goes_9 : decode cX9_goes 9 = .ok (.getfield 97, 3) := by decide +kernel
theorem dX9_goes_12 : decode cX9_goes 12 = .ok (.invokevirtual 222, 3) := by decide +kernel
theorem dX9_goes_15 : decode cX9_goes 15 = .ok (.iconst (-1), 1) := by decide +kernel
theorem dX9_goes_16 : decode cX9_goes 16 = .ok (.ixor, 1) := by decide +kernel
theorem dX9_goes_17 : decode cX9_goes 17 = .ok (.iand, 1) := by decide +kernel
theorem dX9_goes_18 : decode cX9_goes 18 = .ok (.ifCond .eq 6, 3) := by decide +kernel
theorem dX9_goes_21 : decode cX9_goes 21 = .ok (.bipush (-2), 2) := by decide +kernel
theorem dX9_goes_23 : decode cX9_goes 23 = .ok (.ireturn, 1) := by decide +kernel
theorem dX9_goes_24 : decode cX9_goes 24 = .ok (.aload_n 0, 1) := by decide +kernel
theorem dX9_goes_25 : decode cX9_goes 25 = .ok (.getfield 19, 3) := by decide +kernel
theorem dX9_goes_28 : decode cX9_goes 28 = .ok (.aload_n 0, 1) := by decide +kernel
theorem dX9_goes_29 : decode cX9_goes 29 = .ok (.getfield 26, 3) := by decide +kernel
theorem dX9_goes_32 : decode cX9_goes 32 = .ok (.iload_n 1, 1) := by decide +kernel
theorem dX9_goes_33 : decode cX9_goes 33 = .ok (.invokevirtual 218, 3) := by decide +kernel
theorem dX9_goes_36 : decode cX9_goes 36 = .ok (.istore_n 2, 1) := by decide +kernel
theorem dX9_goes_37 : decode cX9_goes 37 = .ok (.aload_n 0, 1) := by decide +kernel
theorem dX9_goes_38 : decode cX9_goes 38 = .ok (.getfield 19, 3) := by decide +kernel
theorem dX9_goes_41 : decode cX9_goes 41 = .ok (.aload_n 0, 1) := by decide +kernel
theorem dX9_goes_42 : decode cX9_goes 42 = .ok (.getfield 26, 3) := by decide +kernel
theorem dX9_goes_45 : decode cX9_goes 45 = .ok (.iload_n 1, 1) := by decide +kernel
theorem dX9_goes_46 : decode cX9_goes 46 = .ok (.invokevirtual 225, 3) := by decide +kernel
theorem dX9_goes_49 : decode cX9_goes 49 = .ok (.aload_n 0, 1) := by decide +kernel
theorem dX9_goes_50 : decode cX9_goes 50 = .ok (.invokevirtual 192, 3) := by decide +kernel
theorem dX9_goes_53 : decode cX9_goes 53 = .ok (.iconst 0, 1) := by decide +kernel
theorem dX9_goes_54 : decode cX9_goes 54 = .ok (.istore_n 3, 1) := by decide +kernel
theorem dX9_goes_55 : decode cX9_goes 55 = .ok (.iload_n 3, 1) := by decide +kernel
theorem dX9_goes_56 : decode cX9_goes 56 = .ok (.aload_n 0, 1) := by decide +kernel
theorem dX9_goes_57 : decode cX9_goes 57 = .ok (.getfield 19, 3) := by decide +kernel
theorem dX9_goes_60 : decode cX9_goes 60 = .ok (.getfield 229, 3) := by decide +kernel
theorem dX9_goes_63 : decode cX9_goes 63 = .ok (.if_icmp .ge 32, 3) := by decide +kernel
theorem dX9_goes_66 : decode cX9_goes 66 = .ok (.aload_n 0, 1) := by decide +kernel
theorem dX9_goes_67 : decode cX9_goes 67 = .ok (.aload_n 0, 1) := by decide +kernel
theorem dX9_goes_68 : decode cX9_goes 68 = .ok (.getfield 19, 3) := by decide +kernel
theorem dX9_goes_71 : decode cX9_goes 71 = .ok (.getfield 108, 3) := by decide +kernel
theorem dX9_goes_74 : decode cX9_goes 74 = .ok (.aload_n 0, 1) := by decide +kernel
theorem dX9_goes_75 : decode cX9_goes 75 = .ok (.getfield 19, 3) := by decide +kernel
theorem dX9_goes_78 : decode cX9_goes 78 = .ok (.getfield 232, 3) := by decide +kernel
theorem dX9_goes_81 : decode cX9_goes 81 = .ok (.iload_n 3, 1) := by decide +kernel
theorem dX9_goes_82 : decode cX9_goes 82 = .ok (.invokevirtual 236, 3) := by decide +kernel
theorem dX9_goes_85 : decode cX9_goes 85 = .ok (.i2l, 1) := by decide +kernel
theorem dX9_goes_86 : decode cX9_goes 86 = .ok (.invokevirtual 195, 3) := by decide +kernel
theorem dX9_goes_89 : decode cX9_goes 89 = .ok (.iinc 3 1, 3) := by decide +kernel
theorem dX9_goes_92 : decode cX9_goes 92 = .ok (.goto (-37), 3) := by decide +kernel
theorem dX9_goes_95 : decode cX9_goes 95 = .ok (.iload_n 2, 1) := by decide +kernel
theorem dX9_goes_96 : decode cX9_goes 96 = .ok (.ireturn, 1) := by decide +kernel
theorem dX9_worthOf_0 : decode cX9_worthOf 0 = .ok (.aload_n 0, 1) := by decide +kernel
theorem dX9_worthOf_1 : decode cX9_worthOf 1 = .ok (.getfield 19, 3) := by decide +kernel
theorem dX9_worthOf_4 : decode cX9_worthOf 4 = .ok (.iload_n 1, 1) := by decide +kernel
theorem dX9_worthOf_5 : decode cX9_worthOf 5 = .ok (.invokevirtual 148, 3) := by decide +kernel
theorem dX9_worthOf_8 : decode cX9_worthOf 8 = .ok (.ifCond .ne 11, 3) := by decide +kernel
theorem dX9_worthOf_11 : decode cX9_worthOf 11 = .ok (.new 126, 3) := by decide +kernel
theorem dX9_worthOf_14 : decode cX9_worthOf 14 = .ok (.dup, 1) := by decide +kernel
theorem dX9_worthOf_15 : decode cX9_worthOf 15 = .ok (.invokespecial 128, 3) := by decide +kernel
theorem dX9_worthOf_18 : decode cX9_worthOf 18 = .ok (.athrow, 1) := by decide +kernel
theorem dX9_worthOf_19 : decode cX9_worthOf 19 = .ok (.aload_n 0, 1) := by decide +kernel
theorem dX9_worthOf_20 : decode cX9_worthOf 20 = .ok (.getfield 19, 3) := by decide +kernel
theorem dX9_worthOf_23 : decode cX9_worthOf 23 = .ok (.aload_n 0, 1) := by decide +kernel
theorem dX9_worthOf_24 : decode cX9_worthOf 24 = .ok (.getfield 26, 3) := by decide +kernel
theorem dX9_worthOf_27 : decode cX9_worthOf 27 = .ok (.aload_n 0, 1) := by decide +kernel
theorem dX9_worthOf_28 : decode cX9_worthOf 28 = .ok (.getfield 26, 3) := by decide +kernel
theorem dX9_worthOf_31 : decode cX9_worthOf 31 = .ok (.getfield 142, 3) := by decide +kernel
theorem dX9_worthOf_34 : decode cX9_worthOf 34 = .ok (.invokevirtual 225, 3) := by decide +kernel
theorem dX9_worthOf_37 : decode cX9_worthOf 37 = .ok (.aload_n 0, 1) := by decide +kernel
theorem dX9_worthOf_38 : decode cX9_worthOf 38 = .ok (.getfield 19, 3) := by decide +kernel
theorem dX9_worthOf_41 : decode cX9_worthOf 41 = .ok (.getfield 108, 3) := by decide +kernel
theorem dX9_worthOf_44 : decode cX9_worthOf 44 = .ok (.aload_n 0, 1) := by decide +kernel
theorem dX9_worthOf_45 : decode cX9_worthOf 45 = .ok (.getfield 19, 3) := by decide +kernel
theorem dX9_worthOf_48 : decode cX9_worthOf 48 = .ok (.getfield 232, 3) := by decide +kernel
theorem dX9_worthOf_51 : decode cX9_worthOf 51 = .ok (.iload_n 1, 1) := by decide +kernel
theorem dX9_worthOf_52 : decode cX9_worthOf 52 = .ok (.invokevirtual 236, 3) := by decide +kernel
theorem dX9_worthOf_55 : decode cX9_worthOf 55 = .ok (.ireturn, 1) := by decide +kernel
theorem dX9_can_0 : decode cX9_can 0 = .ok (.aload_n 0, 1) := by decide +kernel
theorem dX9_can_1 : decode cX9_can 1 = .ok (.getfield 55, 3) := by decide +kernel
theorem dX9_can_4 : decode cX9_can 4 = .ok (.lconst 0, 1) := by decide +kernel
theorem dX9_can_5 : decode cX9_can 5 = .ok (.invokestatic 240, 3) := by decide +kernel
theorem dX9_can_8 : decode cX9_can 8 = .ok (.aload_n 0, 1) := by decide +kernel
theorem dX9_can_9 : decode cX9_can 9 = .ok (.getfield 26, 3) := by decide +kernel
theorem dX9_can_12 : decode cX9_can 12 = .ok (.aload_n 0, 1) := by decide +kernel
theorem dX9_can_13 : decode cX9_can 13 = .ok (.getfield 26, 3) := by decide +kernel
theorem dX9_can_16 : decode cX9_can 16 = .ok (.getfield 97, 3) := by decide +kernel
theorem dX9_can_19 : decode cX9_can 19 = .ok (.invokevirtual 222, 3) := by decide +kernel
theorem dX9_can_22 : decode cX9_can 22 = .ok (.istore_n 1, 1) := by decide +kernel
theorem dX9_can_23 : decode cX9_can 23 = .ok (.iload_n 1, 1) := by decide +kernel
theorem dX9_can_24 : decode cX9_can 24 = .ok (.invokestatic 246, 3) := by decide +kernel
theorem dX9_can_27 : decode cX9_can 27 = .ok (.istore_n 2, 1) := by decide +kernel
theorem dX9_can_28 : decode cX9_can 28 = .ok (.iconst 0, 1) := by decide +kernel
theorem dX9_can_29 : decode cX9_can 29 = .ok (.istore_n 3, 1) := by decide +kernel
theorem dX9_can_30 : decode cX9_can 30 = .ok (.iconst 0, 1) := by decide +kernel
theorem dX9_can_31 : decode cX9_can 31 = .ok (.istore 4, 2) := by decide +kernel
theorem dX9_can_33 : decode cX9_can 33 = .ok (.iload 4, 2) := by decide +kernel
theorem dX9_can_35 : decode cX9_can 35 = .ok (.iload_n 2, 1) := by decide +kernel
theorem dX9_can_36 : decode cX9_can 36 = .ok (.if_icmp .ge 32, 3) := by decide +kernel
theorem dX9_can_39 : decode cX9_can 39 = .ok (.aload_n 0, 1) := by decide +kernel
theorem dX9_can_40 : decode cX9_can 40 = .ok (.aload_n 0, 1) := by decide +kernel
theorem dX9_can_41 : decode cX9_can 41 = .ok (.getfield 19, 3) := by decide +kernel
theorem dX9_can_44 : decode cX9_can 44 = .ok (.aload_n 0, 1) := by decide +kernel
theorem dX9_can_45 : decode cX9_can 45 = .ok (.getfield 26, 3) := by decide +kernel
theorem dX9_can_48 : decode cX9_can 48 = .ok (.iload_n 3, 1) := by decide +kernel
theorem dX9_can_49 : decode cX9_can 49 = .ok (.invokevirtual 218, 3) := by decide +kernel
theorem dX9_can_52 : decode cX9_can 52 = .ok (.lconst 1, 1) := by decide +kernel
theorem dX9_can_53 : decode cX9_can 53 = .ok (.invokevirtual 249, 3) := by decide +kernel
theorem dX9_can_56 : decode cX9_can 56 = .ok (.iload_n 3, 1) := by decide +kernel
theorem dX9_can_57 : decode cX9_can 57 = .ok (.iload_n 1, 1) := by decide +kernel
theorem dX9_can_58 : decode cX9_can 58 = .ok (.invokestatic 253, 3) := by decide +kernel
theorem dX9_can_61 : decode cX9_can 61 = .ok (.istore_n 3, 1) := by decide +kernel
theorem dX9_can_62 : decode cX9_can 62 = .ok (.iinc 4 1, 3) := by decide +kernel
theorem dX9_can_65 : decode cX9_can 65 = .ok (.goto (-32), 3) := by decide +kernel
theorem dX9_can_68 : decode cX9_can 68 = .ok (.aload_n 0, 1) := by decide +kernel
theorem dX9_can_69 : decode cX9_can 69 = .ok (.invokevirtual 192, 3) := by decide +kernel
theorem dX9_can_72 : decode cX9_can 72 = .ok (.iconst 0, 1) := by decide +kernel
theorem dX9_can_73 : decode cX9_can 73 = .ok (.istore 4, 2) := by decide +kernel
theorem dX9_can_75 : decode cX9_can 75 = .ok (.iconst 0, 1) := by decide +kernel
theorem dX9_can_76 : decode cX9_can 76 = .ok (.istore 5, 2) := by decide +kernel
theorem dX9_can_78 : decode cX9_can 78 = .ok (.iload 5, 2) := by decide +kernel
theorem dX9_can_80 : decode cX9_can 80 = .ok (.aload_n 0, 1) := by decide +kernel
theorem dX9_can_81 : decode cX9_can 81 = .ok (.getfield 19, 3) := by decide +kernel
theorem dX9_can_84 : decode cX9_can 84 = .ok (.getfield 229, 3) := by decide +kernel
theorem dX9_can_87 : decode cX9_can 87 = .ok (.if_icmp .ge 45, 3) := by decide +kernel
theorem dX9_can_90 : decode cX9_can 90 = .ok (.iload 4, 2) := by decide +kernel
theorem dX9_can_92 : decode cX9_can 92 = .ok (.aload_n 0, 1) := by decide +kernel
theorem dX9_can_93 : decode cX9_can 93 = .ok (.getfield 55, 3) := by decide +kernel
theorem dX9_can_96 : decode cX9_can 96 = .ok (.iload 5, 2) := by decide +kernel
theorem dX9_can_98 : decode cX9_can 98 = .ok (.laload, 1) := by decide +kernel
theorem dX9_can_99 : decode cX9_can 99 = .ok (.lconst 0, 1) := by decide +kernel
theorem dX9_can_100 : decode cX9_can 100 = .ok (.lcmp, 1) := by decide +kernel
theorem dX9_can_101 : decode cX9_can 101 = .ok (.ifCond .le 10, 3) := by decide +kernel
theorem dX9_can_104 : decode cX9_can 104 = .ok (.iconst 1, 1) := by decide +kernel
theorem dX9_can_105 : decode cX9_can 105 = .ok (.iload 5, 2) := by decide +kernel
theorem dX9_can_107 : decode cX9_can 107 = .ok (.ishl, 1) := by decide +kernel
theorem dX9_can_108 : decode cX9_can 108 = .ok (.goto 4, 3) := by decide +kernel
theorem dX9_can_111 : decode cX9_can 111 = .ok (.iconst 0, 1) := by decide +kernel
theorem dX9_can_112 : decode cX9_can 112 = .ok (.ior, 1) := by decide +kernel
theorem dX9_can_113 : decode cX9_can 113 = .ok (.istore 4, 2) := by decide +kernel
theorem dX9_can_115 : decode cX9_can 115 = .ok (.aload_n 0, 1) := by decide +kernel
theorem dX9_can_116 : decode cX9_can 116 = .ok (.aload_n 0, 1) := by decide +kernel
theorem dX9_can_117 : decode cX9_can 117 = .ok (.getfield 55, 3) := by decide +kernel
theorem dX9_can_120 : decode cX9_can 120 = .ok (.iload 5, 2) := by decide +kernel
theorem dX9_can_122 : decode cX9_can 122 = .ok (.laload, 1) := by decide +kernel
theorem dX9_can_123 : decode cX9_can 123 = .ok (.invokevirtual 195, 3) := by decide +kernel
theorem dX9_can_126 : decode cX9_can 126 = .ok (.iinc 5 1, 3) := by decide +kernel
theorem dX9_can_129 : decode cX9_can 129 = .ok (.goto (-51), 3) := by decide +kernel
theorem dX9_can_132 : decode cX9_can 132 = .ok (.iload 4, 2) := by decide +kernel
theorem dX9_can_134 : decode cX9_can 134 = .ok (.ireturn, 1) := by decide +kernel
theorem dX9_along_0 : decode cX9_along 0 = .ok (.aload_n 0, 1) := by decide +kernel
theorem dX9_along_1 : decode cX9_along 1 = .ok (.iload_n 1, 1) := by decide +kernel
theorem dX9_along_2 : decode cX9_along 2 = .ok (.aload_n 0, 1) := by decide +kernel
theorem dX9_along_3 : decode cX9_along 3 = .ok (.getfield 26, 3) := by decide +kernel
theorem dX9_along_6 : decode cX9_along 6 = .ok (.aload_n 0, 1) := by decide +kernel
theorem dX9_along_7 : decode cX9_along 7 = .ok (.getfield 26, 3) := by decide +kernel
theorem dX9_along_10 : decode cX9_along 10 = .ok (.getfield 97, 3) := by decide +kernel
theorem dX9_along_13 : decode cX9_along 13 = .ok (.invokevirtual 222, 3) := by decide +kernel
theorem dX9_along_16 : decode cX9_along 16 = .ok (.aload_n 0, 1) := by decide +kernel
theorem dX9_along_17 : decode cX9_along 17 = .ok (.getfield 26, 3) := by decide +kernel
theorem dX9_along_20 : decode cX9_along 20 = .ok (.getfield 142, 3) := by decide +kernel
theorem dX9_along_23 : decode cX9_along 23 = .ok (.iconst (-1), 1) := by decide +kernel
theorem dX9_along_24 : decode cX9_along 24 = .ok (.ixor, 1) := by decide +kernel
theorem dX9_along_25 : decode cX9_along 25 = .ok (.iand, 1) := by decide +kernel
theorem dX9_along_26 : decode cX9_along 26 = .ok (.invokevirtual 256, 3) := by decide +kernel
theorem dX9_along_29 : decode cX9_along 29 = .ok (.ireturn, 1) := by decide +kernel
theorem dX9_without_0 : decode cX9_without 0 = .ok (.aload_n 0, 1) := by decide +kernel
theorem dX9_without_1 : decode cX9_without 1 = .ok (.iload_n 1, 1) := by decide +kernel
theorem dX9_without_2 : decode cX9_without 2 = .ok (.aload_n 0, 1) := by decide +kernel
theorem dX9_without_3 : decode cX9_without 3 = .ok (.getfield 26, 3) := by decide +kernel
theorem dX9_without_6 : decode cX9_without 6 = .ok (.getfield 142, 3) := by decide +kernel
theorem dX9_without_9 : decode cX9_without 9 = .ok (.invokevirtual 256, 3) := by decide +kernel
theorem dX9_without_12 : decode cX9_without 12 = .ok (.ireturn, 1) := by decide +kernel
theorem dX9_advise_0 : decode cX9_advise 0 = .ok (.aload_n 0, 1) := by decide +kernel
theorem dX9_advise_1 : decode cX9_advise 1 = .ok (.getfield 26, 3) := by decide +kernel
theorem dX9_advise_4 : decode cX9_advise 4 = .ok (.iload_n 1, 1) := by decide +kernel
theorem dX9_advise_5 : decode cX9_advise 5 = .ok (.invokevirtual 185, 3) := by decide +kernel
theorem dX9_advise_8 : decode cX9_advise 8 = .ok (.ifCond .ne 6, 3) := by decide +kernel
theorem dX9_advise_11 : decode cX9_advise 11 = .ok (.bipush (-2), 2) := by decide +kernel
theorem dX9_advise_13 : decode cX9_advise 13 = .ok (.ireturn, 1) := by decide +kernel
theorem dX9_advise_14 : decode cX9_advise 14 = .ok (.aload_n 0, 1) := by decide +kernel
theorem dX9_advise_15 : decode cX9_advise 15 = .ok (.getfield 30, 3) := by decide +kernel
theorem dX9_advise_18 : decode cX9_advise 18 = .ok (.aload_n 0, 1) := by decide +kernel
theorem dX9_advise_19 : decode cX9_advise 19 = .ok (.getfield 26, 3) := by decide +kernel
theorem dX9_advise_22 : decode cX9_advise 22 = .ok (.invokevirtual 259, 3) := by decide +kernel
theorem dX9_advise_25 : decode cX9_advise 25 = .ok (.aload_n 0, 1) := by decide +kernel
theorem dX9_advise_26 : decode cX9_advise 26 = .ok (.aload_n 0, 1) := by decide +kernel
theorem dX9_advise_27 : decode cX9_advise 27 = .ok (.getfield 30, 3) := by decide +kernel
theorem dX9_advise_30 : decode cX9_advise 30 = .ok (.iload_n 1, 1) := by decide +kernel
theorem dX9_advise_31 : decode cX9_advise 31 = .ok (.invokevirtual 262, 3) := by decide +kernel
theorem dX9_advise_34 : decode cX9_advise 34 = .ok (.istore_n 2, 1) := by decide +kernel
theorem dX9_advise_35 : decode cX9_advise 35 = .ok (.aload_n 0, 1) := by decide +kernel
theorem dX9_advise_36 : decode cX9_advise 36 = .ok (.invokevirtual 192, 3) := by decide +kernel
theorem dX9_advise_39 : decode cX9_advise 39 = .ok (.aload_n 0, 1) := by decide +kernel
theorem dX9_advise_40 : decode cX9_advise 40 = .ok (.aload_n 0, 1) := by decide +kernel
theorem dX9_advise_41 : decode cX9_advise 41 = .ok (.aload_n 0, 1) := by decide +kernel
theorem dX9_advise_42 : decode cX9_advise 42 = .ok (.getfield 30, 3) := by decide +kernel
theorem dX9_advise_45 : decode cX9_advise 45 = .ok (.iload_n 1, 1) := by decide +kernel
theorem dX9_advise_46 : decode cX9_advise 46 = .ok (.iload_n 2, 1) := by decide +kernel
theorem dX9_advise_47 : decode cX9_advise 47 = .ok (.invokevirtual 265, 3) := by decide +kernel
theorem dX9_advise_50 : decode cX9_advise 50 = .ok (.i2l, 1) := by decide +kernel
theorem dX9_advise_51 : decode cX9_advise 51 = .ok (.invokevirtual 195, 3) := by decide +kernel
theorem dX9_advise_54 : decode cX9_advise 54 = .ok (.iload_n 2, 1) := by decide +kernel
theorem dX9_advise_55 : decode cX9_advise 55 = .ok (.ireturn, 1) := by decide +kernel
theorem dX9_rests_0 : decode cX9_rests 0 = .ok (.iload_n 1, 1) := by decide +kernel
theorem dX9_rests_1 : decode cX9_rests 1 = .ok (.ifCond .lt 9, 3) := by decide +kernel
theorem dX9_rests_4 : decode cX9_rests 4 = .ok (.iload_n 1, 1) := by decide +kernel
theorem dX9_rests_5 : decode cX9_rests 5 = .ok (.bipush 30, 2) := by decide +kernel
theorem dX9_rests_7 : decode cX9_rests 7 = .ok (.if_icmp .le 5, 3) := by decide +kernel
theorem dX9_rests_10 : decode cX9_rests 10 = .ok (.iconst (-1), 1) := by decide +kernel
theorem dX9_rests_11 : decode cX9_rests 11 = .ok (.ireturn, 1) := by decide +kernel
theorem dX9_rests_12 : decode cX9_rests 12 = .ok (.aload_n 0, 1) := by decide +kernel
theorem dX9_rests_13 : decode cX9_rests 13 = .ok (.getfield 30, 3) := by decide +kernel
theorem dX9_rests_16 : decode cX9_rests 16 = .ok (.aload_n 0, 1) := by decide +kernel
theorem dX9_rests_17 : decode cX9_rests 17 = .ok (.getfield 26, 3) := by decide +kernel
theorem dX9_rests_20 : decode cX9_rests 20 = .ok (.invokevirtual 259, 3) := by decide +kernel
theorem dX9_rests_23 : decode cX9_rests 23 = .ok (.iconst 0, 1) := by decide +kernel
theorem dX9_rests_24 : decode cX9_rests 24 = .ok (.istore_n 2, 1) := by decide +kernel
theorem dX9_rests_25 : decode cX9_rests 25 = .ok (.iconst 0, 1) := by decide +kernel
theorem dX9_rests_26 : decode cX9_rests 26 = .ok (.istore_n 3, 1) := by decide +kernel
theorem dX9_rests_27 : decode cX9_rests 27 = .ok (.iload_n 2, 1) := by decide +kernel
theorem dX9_rests_28 : decode cX9_rests 28 = .ok (.iload_n 1, 1) := by decide +kernel
theorem dX9_rests_29 : decode cX9_rests 29 = .ok (.if_icmp .ge 30, 3) := by decide +kernel
theorem dX9_rests_32 : decode cX9_rests 32 = .ok (.iload_n 3, 1) := by decide +kernel
theorem dX9_rests_33 : decode cX9_rests 33 = .ok (.ifCond .ne 26, 3) := by decide +kernel
theorem dX9_rests_36 : decode cX9_rests 36 = .ok (.aload_n 0, 1) := by decide +kernel
theorem dX9_rests_37 : decode cX9_rests 37 = .ok (.aload_n 0, 1) := by decide +kernel
theorem dX9_rests_38 : decode cX9_rests 38 = .ok (.getfield 30, 3) := by decide +kernel
theorem dX9_rests_41 : decode cX9_rests 41 = .ok (.invokevirtual 269, 3) := by decide +kernel
theorem dX9_rests_44 : decode cX9_rests 44 = .ok (.ifCond .ne 7, 3) := by decide +kernel
theorem dX9_rests_47 : decode cX9_rests 47 = .ok (.iconst 1, 1) := by decide +kernel
theorem dX9_rests_48 : decode cX9_rests 48 = .ok (.goto 4, 3) := by decide +kernel
theorem dX9_rests_51 : decode cX9_rests 51 = .ok (.iconst 0, 1) := by decide +kernel
theorem dX9_rests_52 : decode cX9_rests 52 = .ok (.istore_n 3, 1) := by decide +kernel
theorem dX9_rests_53 : decode cX9_rests 53 = .ok (.iinc 2 1, 3) := by decide +kernel
theorem dX9_rests_56 : decode cX9_rests 56 = .ok (.goto (-29), 3) := by decide +kernel
theorem dX9_rests_59 : decode cX9_rests 59 = .ok (.aload_n 0, 1) := by decide +kernel
theorem dX9_rests_60 : decode cX9_rests 60 = .ok (.invokevirtual 192, 3) := by decide +kernel
theorem dX9_rests_63 : decode cX9_rests 63 = .ok (.aload_n 0, 1) := by decide +kernel
theorem dX9_rests_64 : decode cX9_rests 64 = .ok (.iload_n 3, 1) := by decide +kernel
theorem dX9_rests_65 : decode cX9_rests 65 = .ok (.ifCond .eq 7, 3) := by decide +kernel
theorem dX9_rests_68 : decode cX9_rests 68 = .ok (.lconst 1, 1) := by decide +kernel
theorem dX9_rests_69 : decode cX9_rests 69 = .ok (.goto 4, 3) := by decide +kernel
theorem dX9_rests_72 : decode cX9_rests 72 = .ok (.lconst 0, 1) := by decide +kernel
theorem dX9_rests_73 : decode cX9_rests 73 = .ok (.invokevirtual 195, 3) := by decide +kernel
theorem dX9_rests_76 : decode cX9_rests 76 = .ok (.aload_n 0, 1) := by decide +kernel
theorem dX9_rests_77 : decode cX9_rests 77 = .ok (.aload_n 0, 1) := by decide +kernel
theorem dX9_rests_78 : decode cX9_rests 78 = .ok (.getfield 19, 3) := by decide +kernel
theorem dX9_rests_81 : decode cX9_rests 81 = .ok (.aload_n 0, 1) := by decide +kernel
theorem dX9_rests_82 : decode cX9_rests 82 = .ok (.getfield 30, 3) := by decide +kernel
theorem dX9_rests_85 : decode cX9_rests 85 = .ok (.aload_n 0, 1) := by decide +kernel
theorem dX9_rests_86 : decode cX9_rests 86 = .ok (.getfield 30, 3) := by decide +kernel
theorem dX9_rests_89 : decode cX9_rests 89 = .ok (.getfield 142, 3) := by decide +kernel
theorem dX9_rests_92 : decode cX9_rests 92 = .ok (.invokevirtual 218, 3) := by decide +kernel
theorem dX9_rests_95 : decode cX9_rests 95 = .ok (.i2l, 1) := by decide +kernel
theorem dX9_rests_96 : decode cX9_rests 96 = .ok (.invokevirtual 195, 3) := by decide +kernel
theorem dX9_rests_99 : decode cX9_rests 99 = .ok (.iconst 0, 1) := by decide +kernel
theorem dX9_rests_100 : decode cX9_rests 100 = .ok (.istore 4, 2) := by decide +kernel
theorem dX9_rests_102 : decode cX9_rests 102 = .ok (.iload 4, 2) := by decide +kernel
theorem dX9_rests_104 : decode cX9_rests 104 = .ok (.aload_n 0, 1) := by decide +kernel
theorem dX9_rests_105 : decode cX9_rests 105 = .ok (.getfield 19, 3) := by decide +kernel
theorem dX9_rests_108 : decode cX9_rests 108 = .ok (.getfield 154, 3) := by decide +kernel
theorem dX9_rests_111 : decode cX9_rests 111 = .ok (.if_icmp .ge 24, 3) := by decide +kernel
theorem dX9_rests_114 : decode cX9_rests 114 = .ok (.aload_n 0, 1) := by decide +kernel
theorem dX9_rests_115 : decode cX9_rests 115 = .ok (.aload_n 0, 1) := by decide +kernel
theorem dX9_rests_116 : decode cX9_rests 116 = .ok (.getfield 30, 3) := by decide +kernel
theorem dX9_rests_119 : decode cX9_rests 119 = .ok (.getfield 133, 3) := by decide +kernel
theorem dX9_rests_122 : decode cX9_rests 122 = .ok (.iload 4, 2) := by decide +kernel
theorem dX9_rests_124 : decode cX9_rests 124 = .ok (.iaload, 1) := by decide +kernel
theorem dX9_rests_125 : decode cX9_rests 125 = .ok (.i2l, 1) := by decide +kernel
theorem dX9_rests_126 : decode cX9_rests 126 = .ok (.invokevirtual 195, 3) := by decide +kernel
theorem dX9_rests_129 : decode cX9_rests 129 = .ok (.iinc 4 1, 3) := by decide +kernel
theorem dX9_rests_132 : decode cX9_rests 132 = .ok (.goto (-30), 3) := by decide +kernel
theorem dX9_rests_135 : decode cX9_rests 135 = .ok (.iload_n 2, 1) := by decide +kernel
theorem dX9_rests_136 : decode cX9_rests 136 = .ok (.ireturn, 1) := by decide +kernel
theorem dX9_then_0 : decode cX9_then 0 = .ok (.iload_n 1, 1) := by decide +kernel
theorem dX9_then_1 : decode cX9_then 1 = .ok (.ifCond .lt 9, 3) := by decide +kernel
theorem dX9_then_4 : decode cX9_then 4 = .ok (.iload_n 1, 1) := by decide +kernel
theorem dX9_then_5 : decode cX9_then 5 = .ok (.bipush 12, 2) := by decide +kernel
theorem dX9_then_7 : decode cX9_then 7 = .ok (.if_icmp .le 5, 3) := by decide +kernel
theorem dX9_then_10 : decode cX9_then 10 = .ok (.iconst (-1), 1) := by decide +kernel
theorem dX9_then_11 : decode cX9_then 11 = .ok (.ireturn, 1) := by decide +kernel
theorem dX9_then_12 : decode cX9_then 12 = .ok (.aload_n 0, 1) := by decide +kernel
theorem dX9_then_13 : decode cX9_then 13 = .ok (.getfield 30, 3) := by decide +kernel
theorem dX9_then_16 : decode cX9_then 16 = .ok (.aload_n 0, 1) := by decide +kernel
theorem dX9_then_17 : decode cX9_then 17 = .ok (.getfield 26, 3) := by decide +kernel
theorem dX9_then_20 : decode cX9_then 20 = .ok (.invokevirtual 259, 3) := by decide +kernel
theorem dX9_then_23 : decode cX9_then 23 = .ok (.aload_n 0, 1) := by decide +kernel
theorem dX9_then_24 : decode cX9_then 24 = .ok (.invokevirtual 192, 3) := by decide +kernel
theorem dX9_then_27 : decode cX9_then 27 = .ok (.iconst 0, 1) := by decide +kernel
theorem dX9_then_28 : decode cX9_then 28 = .ok (.istore_n 2, 1) := by decide +kernel
theorem dX9_then_29 : decode cX9_then 29 = .ok (.iconst 0, 1) := by decide +kernel
theorem dX9_then_30 : decode cX9_then 30 = .ok (.istore_n 3, 1) := by decide +kernel
theorem dX9_then_31 : decode cX9_then 31 = .ok (.iload_n 3, 1) := by decide +kernel
theorem dX9_then_32 : decode cX9_then 32 = .ok (.iload_n 1, 1) := by decide +kernel
theorem dX9_then_33 : decode cX9_then 33 = .ok (.if_icmp .ge 35, 3) := by decide +kernel
theorem dX9_then_36 : decode cX9_then 36 = .ok (.iload_n 2, 1) := by decide +kernel
theorem dX9_then_37 : decode cX9_then 37 = .ok (.aload_n 0, 1) := by decide +kernel
theorem dX9_then_38 : decode cX9_then 38 = .ok (.getfield 19, 3) := by decide +kernel
theorem dX9_then_41 : decode cX9_then 41 = .ok (.aload_n 0, 1) := by decide +kernel
theorem dX9_then_42 : decode cX9_then 42 = .ok (.getfield 30, 3) := by decide +kernel
theorem dX9_then_45 : decode cX9_then 45 = .ok (.invokevirtual 188, 3) := by decide +kernel
theorem dX9_then_48 : decode cX9_then 48 = .ok (.ior, 1) := by decide +kernel
theorem dX9_then_49 : decode cX9_then 49 = .ok (.istore_n 2, 1) := by decide +kernel
theorem dX9_then_50 : decode cX9_then 50 = .ok (.aload_n 0, 1) := by decide +kernel
theorem dX9_then_51 : decode cX9_then 51 = .ok (.aload_n 0, 1) := by decide +kernel
theorem dX9_then_52 : decode cX9_then 52 = .ok (.getfield 30, 3) := by decide +kernel
theorem dX9_then_55 : decode cX9_then 55 = .ok (.getfield 97, 3) := by decide +kernel
theorem dX9_then_58 : decode cX9_then 58 = .ok (.i2l, 1) := by decide +kernel
theorem dX9_then_59 : decode cX9_then 59 = .ok (.invokevirtual 195, 3) := by decide +kernel
theorem dX9_then_62 : decode cX9_then 62 = .ok (.iinc 3 1, 3) := by decide +kernel
theorem dX9_then_65 : decode cX9_then 65 = .ok (.goto (-34), 3) := by decide +kernel
theorem dX9_then_68 : decode cX9_then 68 = .ok (.iload_n 2, 1) := by decide +kernel
theorem dX9_then_69 : decode cX9_then 69 = .ok (.invokestatic 272, 3) := by decide +kernel
theorem dX9_then_72 : decode cX9_then 72 = .ok (.ireturn, 1) := by decide +kernel
theorem dX9_since_0 : decode cX9_since 0 = .ok (.aload_n 0, 1) := by decide +kernel
theorem dX9_since_1 : decode cX9_since 1 = .ok (.getfield 26, 3) := by decide +kernel
theorem dX9_since_4 : decode cX9_since 4 = .ok (.iload_n 1, 1) := by decide +kernel
theorem dX9_since_5 : decode cX9_since 5 = .ok (.invokevirtual 185, 3) := by decide +kernel
theorem dX9_since_8 : decode cX9_since 8 = .ok (.ifCond .ne 5, 3) := by decide +kernel
theorem dX9_since_11 : decode cX9_since 11 = .ok (.iconst (-1), 1) := by decide +kernel
theorem dX9_since_12 : decode cX9_since 12 = .ok (.ireturn, 1) := by decide +kernel
theorem dX9_since_13 : decode cX9_since 13 = .ok (.aload_n 0, 1) := by decide +kernel
theorem dX9_since_14 : decode cX9_since 14 = .ok (.getfield 19, 3) := by decide +kernel
theorem dX9_since_17 : decode cX9_since 17 = .ok (.getfield 108, 3) := by decide +kernel
theorem dX9_since_20 : decode cX9_since 20 = .ok (.getfield 277, 3) := by decide +kernel
theorem dX9_since_23 : decode cX9_since 23 = .ok (.ifCond .eq 6, 3) := by decide +kernel
theorem dX9_since_26 : decode cX9_since 26 = .ok (.bipush (-4), 2) := by decide +kernel
theorem dX9_since_28 : decode cX9_since 28 = .ok (.ireturn, 1) := by decide +kernel
theorem dX9_since_29 : decode cX9_since 29 = .ok (.aload_n 0, 1) := by decide +kernel
theorem dX9_since_30 : decode cX9_since 30 = .ok (.getfield 30, 3) := by decide +kernel
theorem dX9_since_33 : decode cX9_since 33 = .ok (.aload_n 0, 1) := by decide +kernel
theorem dX9_since_34 : decode cX9_since 34 = .ok (.getfield 26, 3) := by decide +kernel
theorem dX9_since_37 : decode cX9_since 37 = .ok (.invokevirtual 259, 3) := by decide +kernel
theorem dX9_since_40 : decode cX9_since 40 = .ok (.iconst 1, 1) := by decide +kernel
theorem dX9_since_41 : decode cX9_since 41 = .ok (.istore_n 2, 1) := by decide +kernel
theorem dX9_since_42 : decode cX9_since 42 = .ok (.iload_n 2, 1) := by decide +kernel
theorem dX9_since_43 : decode cX9_since 43 = .ok (.sipush 630, 3) := by decide +kernel
theorem dX9_since_46 : decode cX9_since 46 = .ok (.if_icmp .gt 34, 3) := by decide +kernel
theorem dX9_since_49 : decode cX9_since 49 = .ok (.aload_n 0, 1) := by decide +kernel
theorem dX9_since_50 : decode cX9_since 50 = .ok (.getfield 19, 3) := by decide +kernel
theorem dX9_since_53 : decode cX9_since 53 = .ok (.aload_n 0, 1) := by decide +kernel
theorem dX9_since_54 : decode cX9_since 54 = .ok (.getfield 30, 3) := by decide +kernel
theorem dX9_since_57 : decode cX9_since 57 = .ok (.invokevirtual 188, 3) := by decide +kernel
theorem dX9_since_60 : decode cX9_since 60 = .ok (.pop, 1) := by decide +kernel
theorem dX9_since_61 : decode cX9_since 61 = .ok (.aload_n 0, 1) := by decide +kernel
theorem dX9_since_62 : decode cX9_since 62 = .ok (.getfield 30, 3) := by decide +kernel
theorem dX9_since_65 : decode cX9_since 65 = .ok (.iload_n 1, 1) := by decide +kernel
theorem dX9_since_66 : decode cX9_since 66 = .ok (.invokevirtual 185, 3) := by decide +kernel
theorem dX9_since_69 : decode cX9_since 69 = .ok (.ifCond .ne 5, 3) := by decide +kernel
theorem dX9_since_72 : decode cX9_since 72 = .ok (.iload_n 2, 1) := by decide +kernel
theorem dX9_since_73 : decode cX9_since 73 = .ok (.ireturn, 1) := by decide +kernel
theorem dX9_since_74 : decode cX9_since 74 = .ok (.iinc 2 1, 3) := by decide +kernel
theorem dX9_since_77 : decode cX9_since 77 = .ok (.goto (-35), 3) := by decide +kernel
theorem dX9_since_80 : decode cX9_since 80 = .ok (.bipush (-2), 2) := by decide +kernel
theorem dX9_since_82 : decode cX9_since 82 = .ok (.ireturn, 1) := by decide +kernel
theorem dX9_ballast_0 : decode cX9_ballast 0 = .ok (.aload_n 0, 1) := by decide +kernel
theorem dX9_ballast_1 : decode cX9_ballast 1 = .ok (.getfield 26, 3) := by decide +kernel
theorem dX9_ballast_4 : decode cX9_ballast 4 = .ok (.iload_n 1, 1) := by decide +kernel
theorem dX9_ballast_5 : decode cX9_ballast 5 = .ok (.invokevirtual 185, 3) := by decide +kernel
theorem dX9_ballast_8 : decode cX9_ballast 8 = .ok (.ifCond .eq 13, 3) := by decide +kernel
theorem dX9_ballast_11 : decode cX9_ballast 11 = .ok (.iload_n 2, 1) := by decide +kernel
theorem dX9_ballast_12 : decode cX9_ballast 12 = .ok (.ifCond .lt 9, 3) := by decide +kernel
theorem dX9_ballast_15 : decode cX9_ballast 15 = .ok (.iload_n 2, 1) := by decide +kernel
theorem dX9_ballast_16 : decode cX9_ballast 16 = .ok (.bipush 40, 2) := by decide +kernel
theorem dX9_ballast_18 : decode cX9_ballast 18 = .ok (.if_icmp .le 11, 3) := by decide +kernel
theorem dX9_ballast_21 : decode cX9_ballast 21 = .ok (.new 126, 3) := by decide +kernel
theorem dX9_ballast_24 : decode cX9_ballast 24 = .ok (.dup, 1) := by decide +kernel
theorem dX9_ballast_25 : decode cX9_ballast 25 = .ok (.invokespecial 128, 3) := by decide +kernel
theorem dX9_ballast_28 : decode cX9_ballast 28 = .ok (.athrow, 1) := by decide +kernel
theorem dX9_ballast_29 : decode cX9_ballast 29 = .ok (.iconst 1, 1) := by decide +kernel
theorem dX9_ballast_30 : decode cX9_ballast 30 = .ok (.iload_n 1, 1) := by decide +kernel
theorem dX9_ballast_31 : decode cX9_ballast 31 = .ok (.ishl, 1) := by decide +kernel
theorem dX9_ballast_32 : decode cX9_ballast 32 = .ok (.iconst (-1), 1) := by decide +kernel
theorem dX9_ballast_33 : decode cX9_ballast 33 = .ok (.ixor, 1) := by decide +kernel
theorem dX9_ballast_34 : decode cX9_ballast 34 = .ok (.istore_n 3, 1) := by decide +kernel
theorem dX9_ballast_35 : decode cX9_ballast 35 = .ok (.aload_n 0, 1) := by decide +kernel
theorem dX9_ballast_36 : decode cX9_ballast 36 = .ok (.aload_n 0, 1) := by decide +kernel
theorem dX9_ballast_37 : decode cX9_ballast 37 = .ok (.getfield 26, 3) := by decide +kernel
theorem dX9_ballast_40 : decode cX9_ballast 40 = .ok (.getfield 142, 3) := by decide +kernel
theorem dX9_ballast_43 : decode cX9_ballast 43 = .ok (.iload_n 2, 1) := by decide +kernel
theorem dX9_ballast_44 : decode cX9_ballast 44 = .ok (.invokevirtual 281, 3) := by decide +kernel
theorem dX9_ballast_47 : decode cX9_ballast 47 = .ok (.iload_n 3, 1) := by decide +kernel
theorem dX9_ballast_48 : decode cX9_ballast 48 = .ok (.iand, 1) := by decide +kernel
theorem dX9_ballast_49 : decode cX9_ballast 49 = .ok (.istore 4, 2) := by decide +kernel
theorem dX9_ballast_51 : decode cX9_ballast 51 = .ok (.aload_n 0, 1) := by decide +kernel
theorem dX9_ballast_52 : decode cX9_ballast 52 = .ok (.aload_n 0, 1) := by decide +kernel
theorem dX9_ballast_53 : decode cX9_ballast 53 = .ok (.getfield 26, 3) := by decide +kernel
theorem dX9_ballast_56 : decode cX9_ballast 56 = .ok (.getfield 142, 3) := by decide +kernel
theorem dX9_ballast_59 : decode cX9_ballast 59 = .ok (.iload_n 3, 1) := by decide +kernel
theorem dX9_ballast_60 : decode cX9_ballast 60 = .ok (.iand, 1) := by decide +kernel
theorem dX9_ballast_61 : decode cX9_ballast 61 = .ok (.iload_n 2, 1) := by decide +kernel
theorem dX9_ballast_62 : decode cX9_ballast 62 = .ok (.invokevirtual 281, 3) := by decide +kernel
theorem dX9_ballast_65 : decode cX9_ballast 65 = .ok (.istore 5, 2) := by decide +kernel
theorem dX9_ballast_67 : decode cX9_ballast 67 = .ok (.iload 4, 2) := by decide +kernel
theorem dX9_ballast_69 : decode cX9_ballast 69 = .ok (.invokestatic 272, 3) := by decide +kernel
theorem dX9_ballast_72 : decode cX9_ballast 72 = .ok (.iload 5, 2) := by decide +kernel
theorem dX9_ballast_74 : decode cX9_ballast 74 = .ok (.invokestatic 272, 3) := by decide +kernel
theorem dX9_ballast_77 : decode cX9_ballast 77 = .ok (.isub, 1) := by decide +kernel
theorem dX9_ballast_78 : decode cX9_ballast 78 = .ok (.ireturn, 1) := by decide +kernel
theorem dX9_hinders_0 : decode cX9_hinders 0 = .ok (.iload_n 1, 1) := by decide +kernel
theorem dX9_hinders_1 : decode cX9_hinders 1 = .ok (.ifCond .lt 9, 3) := by decide +kernel
theorem dX9_hinders_4 : decode cX9_hinders 4 = .ok (.iload_n 1, 1) := by decide +kernel
theorem dX9_hinders_5 : decode cX9_hinders 5 = .ok (.bipush 40, 2) := by decide +kernel
theorem dX9_hinders_7 : decode cX9_hinders 7 = .ok (.if_icmp .le 5, 3) := by decide +kernel
theorem dX9_hinders_10 : decode cX9_hinders 10 = .ok (.iconst (-1), 1) := by decide +kernel
theorem dX9_hinders_11 : decode cX9_hinders 11 = .ok (.ireturn, 1) := by decide +kernel
theorem dX9_hinders_12 : decode cX9_hinders 12 = .ok (.iconst (-1), 1) := by decide +kernel
theorem dX9_hinders_13 : decode cX9_hinders 13 = .ok (.istore_n 2, 1) := by decide +kernel
theorem dX9_hinders_14 : decode cX9_hinders 14 = .ok (.iconst (-1), 1) := by decide +kernel
theorem dX9_hinders_15 : decode cX9_hinders 15 = .ok (.istore_n 3, 1) := by decide +kernel
theorem dX9_hinders_16 : decode cX9_hinders 16 = .ok (.iconst 0, 1) := by decide +kernel
theorem dX9_hinders_17 : decode cX9_hinders 17 = .ok (.istore 4, 2) := by decide +kernel
theorem dX9_hinders_19 : decode cX9_hinders 19 = .ok (.iload 4, 2) := by decide +kernel
theorem dX9_hinders_21 : decode cX9_hinders 21 = .ok (.aload_n 0, 1) := by decide +kernel
theorem dX9_hinders_22 : decode cX9_hinders 22 = .ok (.getfield 19, 3) := by decide +kernel
theorem dX9_hinders_25 : decode cX9_hinders 25 = .ok (.getfield 154, 3) := by decide +kernel
theorem dX9_hinders_28 : decode cX9_hinders 28 = .ok (.if_icmp .ge 57, 3) := by decide +kernel
theorem dX9_hinders_31 : decode cX9_hinders 31 = .ok (.aload_n 0, 1) := by decide +kernel
theorem dX9_hinders_32 : decode cX9_hinders 32 = .ok (.getfield 26, 3) := by decide +kernel
theorem dX9_hinders_35 : decode cX9_hinders 35 = .ok (.iload 4, 2) := by decide +kernel
theorem dX9_hinders_37 : decode cX9_hinders 37 = .ok (.invokevirtual 185, 3) := by decide +kernel
theorem dX9_hinders_40 : decode cX9_hinders 40 = .ok (.ifCond .eq 39, 3) := by decide +kernel
theorem dX9_hinders_43 : decode cX9_hinders 43 = .ok (.aload_n 0, 1) := by decide +kernel
theorem dX9_hinders_44 : decode cX9_hinders 44 = .ok (.aload_n 0, 1) := by decide +kernel
theorem dX9_hinders_45 : decode cX9_hinders 45 = .ok (.getfield 26, 3) := by decide +kernel
theorem dX9_hinders_48 : decode cX9_hinders 48 = .ok (.getfield 142, 3) := by decide +kernel
theorem dX9_hinders_51 : decode cX9_hinders 51 = .ok (.iconst 1, 1) := by decide +kernel
theorem dX9_hinders_52 : decode cX9_hinders 52 = .ok (.iload 4, 2) := by decide +kernel
theorem dX9_hinders_54 : decode cX9_hinders 54 = .ok (.ishl, 1) := by decide +kernel
theorem dX9_hinders_55 : decode cX9_hinders 55 = .ok (.iconst (-1), 1) := by decide +kernel
theorem dX9_hinders_56 : decode cX9_hinders 56 = .ok (.ixor, 1) := by decide +kernel
theorem dX9_hinders_57 : decode cX9_hinders 57 = .ok (.iand, 1) := by decide +kernel
theorem dX9_hinders_58 : decode cX9_hinders 58 = .ok (.iload_n 1, 1) := by decide +kernel
theorem dX9_hinders_59 : decode cX9_hinders 59 = .ok (.invokevirtual 281, 3) := by decide +kernel
theorem dX9_hinders_62 : decode cX9_hinders 62 = .ok (.invokestatic 272, 3) := by decide +kernel
theorem dX9_hinders_65 : decode cX9_hinders 65 = .ok (.istore 5, 2) := by decide +kernel
theorem dX9_hinders_67 : decode cX9_hinders 67 = .ok (.iload 5, 2) := by decide +kernel
theorem dX9_hinders_69 : decode cX9_hinders 69 = .ok (.iload_n 3, 1) := by decide +kernel
theorem dX9_hinders_70 : decode cX9_hinders 70 = .ok (.if_icmp .le 9, 3) := by decide +kernel
theorem dX9_hinders_73 : decode cX9_hinders 73 = .ok (.iload 5, 2) := by decide +kernel
theorem dX9_hinders_75 : decode cX9_hinders 75 = .ok (.istore_n 3, 1) := by decide +kernel
theorem dX9_hinders_76 : decode cX9_hinders 76 = .ok (.iload 4, 2) := by decide +kernel
theorem dX9_hinders_78 : decode cX9_hinders 78 = .ok (.istore_n 2, 1) := by decide +kernel
theorem dX9_hinders_79 : decode cX9_hinders 79 = .ok (.iinc 4 1, 3) := by decide +kernel
theorem dX9_hinders_82 : decode cX9_hinders 82 = .ok (.goto (-63), 3) := by decide +kernel
theorem dX9_hinders_85 : decode cX9_hinders 85 = .ok (.iload_n 2, 1) := by decide +kernel
theorem dX9_hinders_86 : decode cX9_hinders 86 = .ok (.iconst (-1), 1) := by decide +kernel
theorem dX9_hinders_87 : decode cX9_hinders 87 = .ok (.if_icmp .ne 6, 3) := by decide +kernel
theorem dX9_hinders_90 : decode cX9_hinders 90 = .ok (.bipush (-2), 2) := by decide +kernel
theorem dX9_hinders_92 : decode cX9_hinders 92 = .ok (.ireturn, 1) := by decide +kernel
theorem dX9_hinders_93 : decode cX9_hinders 93 = .ok (.aload_n 0, 1) := by decide +kernel
theorem dX9_hinders_94 : decode cX9_hinders 94 = .ok (.invokevirtual 192, 3) := by decide +kernel
theorem dX9_hinders_97 : decode cX9_hinders 97 = .ok (.aload_n 0, 1) := by decide +kernel
theorem dX9_hinders_98 : decode cX9_hinders 98 = .ok (.iload_n 3, 1) := by decide +kernel
theorem dX9_hinders_99 : decode cX9_hinders 99 = .ok (.i2l, 1) := by decide +kernel
theorem dX9_hinders_100 : decode cX9_hinders 100 = .ok (.invokevirtual 195, 3) := by decide +kernel
theorem dX9_hinders_103 : decode cX9_hinders 103 = .ok (.iload_n 2, 1) := by decide +kernel
theorem dX9_hinders_104 : decode cX9_hinders 104 = .ok (.ireturn, 1) := by decide +kernel
theorem dX9_all_0 : decode cX9_all 0 = .ok (.aload_n 0, 1) := by decide +kernel
theorem dX9_all_1 : decode cX9_all 1 = .ok (.aload_n 0, 1) := by decide +kernel
theorem dX9_all_2 : decode cX9_all 2 = .ok (.getfield 19, 3) := by decide +kernel
theorem dX9_all_5 : decode cX9_all 5 = .ok (.invokevirtual 284, 3) := by decide +kernel
theorem dX9_all_8 : decode cX9_all 8 = .ok (.invokevirtual 287, 3) := by decide +kernel
theorem dX9_all_11 : decode cX9_all 11 = .ok (.ireturn, 1) := by decide +kernel
theorem dX9_one_0 : decode cX9_one 0 = .ok (.aload_n 0, 1) := by decide +kernel
theorem dX9_one_1 : decode cX9_one 1 = .ok (.getfield 19, 3) := by decide +kernel
theorem dX9_one_4 : decode cX9_one 4 = .ok (.iload_n 1, 1) := by decide +kernel
theorem dX9_one_5 : decode cX9_one 5 = .ok (.invokevirtual 122, 3) := by decide +kernel
theorem dX9_one_8 : decode cX9_one 8 = .ok (.ifCond .ne 5, 3) := by decide +kernel
theorem dX9_one_11 : decode cX9_one 11 = .ok (.iconst (-1), 1) := by decide +kernel
theorem dX9_one_12 : decode cX9_one 12 = .ok (.ireturn, 1) := by decide +kernel
theorem dX9_one_13 : decode cX9_one 13 = .ok (.aload_n 0, 1) := by decide +kernel
theorem dX9_one_14 : decode cX9_one 14 = .ok (.iconst 1, 1) := by decide +kernel
theorem dX9_one_15 : decode cX9_one 15 = .ok (.iload_n 1, 1) := by decide +kernel
theorem dX9_one_16 : decode cX9_one 16 = .ok (.ishl, 1) := by decide +kernel
theorem dX9_one_17 : decode cX9_one 17 = .ok (.invokevirtual 287, 3) := by decide +kernel
theorem dX9_one_20 : decode cX9_one 20 = .ok (.ireturn, 1) := by decide +kernel
theorem dX9_gather_0 : decode cX9_gather 0 = .ok (.aload_n 0, 1) := by decide +kernel
theorem dX9_gather_1 : decode cX9_gather 1 = .ok (.getfield 19, 3) := by decide +kernel
theorem dX9_gather_4 : decode cX9_gather 4 = .ok (.iload_n 1, 1) := by decide +kernel
theorem dX9_gather_5 : decode cX9_gather 5 = .ok (.invokevirtual 148, 3) := by decide +kernel
theorem dX9_gather_8 : decode cX9_gather 8 = .ok (.ifCond .eq 17, 3) := by decide +kernel
theorem dX9_gather_11 : decode cX9_gather 11 = .ok (.iload_n 2, 1) := by decide +kernel
theorem dX9_gather_12 : decode cX9_gather 12 = .ok (.aload_n 0, 1) := by decide +kernel
theorem dX9_gather_13 : decode cX9_gather 13 = .ok (.getfield 19, 3) := by decide +kernel
theorem dX9_gather_16 : decode cX9_gather 16 = .ok (.invokevirtual 284, 3) := by decide +kernel
theorem dX9_gather_19 : decode cX9_gather 19 = .ok (.iconst (-1), 1) := by decide +kernel
theorem dX9_gather_20 : decode cX9_gather 20 = .ok (.ixor, 1) := by decide +kernel
theorem dX9_gather_21 : decode cX9_gather 21 = .ok (.iand, 1) := by decide +kernel
theorem dX9_gather_22 : decode cX9_gather 22 = .ok (.ifCond .eq 5, 3) := by decide +kernel
theorem dX9_gather_25 : decode cX9_gather 25 = .ok (.iconst (-1), 1) := by decide +kernel
theorem dX9_gather_26 : decode cX9_gather 26 = .ok (.ireturn, 1) := by decide +kernel
theorem dX9_gather_27 : decode cX9_gather 27 = .ok (.aload_n 0, 1) := by decide +kernel
theorem dX9_gather_28 : decode cX9_gather 28 = .ok (.getfield 19, 3) := by decide +kernel
theorem dX9_gather_31 : decode cX9_gather 31 = .ok (.getfield 108, 3) := by decide +kernel
theorem dX9_gather_34 : decode cX9_gather 34 = .ok (.getfield 277, 3) := by decide +kernel
theorem dX9_gather_37 : decode cX9_gather 37 = .ok (.ifCond .eq 6, 3) := by decide +kernel
theorem dX9_gather_40 : decode cX9_gather 40 = .ok (.bipush (-4), 2) := by decide +kernel
theorem dX9_gather_42 : decode cX9_gather 42 = .ok (.ireturn, 1) := by decide +kernel
theorem dX9_gather_43 : decode cX9_gather 43 = .ok (.aload_n 0, 1) := by decide +kernel
theorem dX9_gather_44 : decode cX9_gather 44 = .ok (.getfield 76, 3) := by decide +kernel
theorem dX9_gather_47 : decode cX9_gather 47 = .ok (.iload_n 1, 1) := by decide +kernel
theorem dX9_gather_48 : decode cX9_gather 48 = .ok (.iload_n 2, 1) := by decide +kernel
theorem dX9_gather_49 : decode cX9_gather 49 = .ok (.invokevirtual 290, 3) := by decide +kernel
theorem dX9_gather_52 : decode cX9_gather 52 = .ok (.aload_n 0, 1) := by decide +kernel
theorem dX9_gather_53 : decode cX9_gather 53 = .ok (.getfield 76, 3) := by decide +kernel
theorem dX9_gather_56 : decode cX9_gather 56 = .ok (.aload_n 0, 1) := by decide +kernel
theorem dX9_gather_57 : decode cX9_gather 57 = .ok (.getfield 19, 3) := by decide +kernel
theorem dX9_gather_60 : decode cX9_gather 60 = .ok (.aload_n 0, 1) := by decide +kernel
theorem dX9_gather_61 : decode cX9_gather 61 = .ok (.getfield 26, 3) := by decide +kernel
theorem dX9_gather_64 : decode cX9_gather 64 = .ok (.sipush 3000, 3) := by decide +kernel
theorem dX9_gather_67 : decode cX9_gather 67 = .ok (.invokevirtual 294, 3) := by decide +kernel
theorem dX9_gather_70 : decode cX9_gather 70 = .ok (.istore_n 3, 1) := by decide +kernel
theorem dX9_gather_71 : decode cX9_gather 71 = .ok (.iload_n 3, 1) := by decide +kernel
theorem dX9_gather_72 : decode cX9_gather 72 = .ok (.ifCond .ge 21, 3) := by decide +kernel
theorem dX9_gather_75 : decode cX9_gather 75 = .ok (.aload_n 0, 1) := by decide +kernel
theorem dX9_gather_76 : decode cX9_gather 76 = .ok (.getfield 76, 3) := by decide +kernel
theorem dX9_gather_79 : decode cX9_gather 79 = .ok (.getfield 298, 3) := by decide +kernel
theorem dX9_gather_82 : decode cX9_gather 82 = .ok (.ifCond .eq 8, 3) := by decide +kernel
theorem dX9_gather_85 : decode cX9_gather 85 = .ok (.bipush (-3), 2) := by decide +kernel
theorem dX9_gather_87 : decode cX9_gather 87 = .ok (.goto 5, 3) := by decide +kernel
theorem dX9_gather_90 : decode cX9_gather 90 = .ok (.bipush (-2), 2) := by decide +kernel
theorem dX9_gather_92 : decode cX9_gather 92 = .ok (.ireturn, 1) := by decide +kernel
theorem dX9_gather_93 : decode cX9_gather 93 = .ok (.aload_n 0, 1) := by decide +kernel
theorem dX9_gather_94 : decode cX9_gather 94 = .ok (.getfield 76, 3) := by decide +kernel
theorem dX9_gather_97 : decode cX9_gather 97 = .ok (.getfield 301, 3) := by decide +kernel
theorem dX9_gather_100 : decode cX9_gather 100 = .ok (.ireturn, 1) := by decide +kernel
theorem dX9_states_0 : decode cX9_states 0 = .ok (.iload_n 1, 1) := by decide +kernel
theorem dX9_states_1 : decode cX9_states 1 = .ok (.ifCond .lt 9, 3) := by decide +kernel
theorem dX9_states_4 : decode cX9_states 4 = .ok (.iload_n 1, 1) := by decide +kernel
theorem dX9_states_5 : decode cX9_states 5 = .ok (.bipush 6, 2) := by decide +kernel
theorem dX9_states_7 : decode cX9_states 7 = .ok (.if_icmp .le 5, 3) := by decide +kernel
theorem dX9_states_10 : decode cX9_states 10 = .ok (.iconst (-1), 1) := by decide +kernel
theorem dX9_states_11 : decode cX9_states 11 = .ok (.ireturn, 1) := by decide +kernel
theorem dX9_states_12 : decode cX9_states 12 = .ok (.aload_n 0, 1) := by decide +kernel
theorem dX9_states_13 : decode cX9_states 13 = .ok (.getfield 19, 3) := by decide +kernel
theorem dX9_states_16 : decode cX9_states 16 = .ok (.getfield 108, 3) := by decide +kernel
theorem dX9_states_19 : decode cX9_states 19 = .ok (.getfield 277, 3) := by decide +kernel
theorem dX9_states_22 : decode cX9_states 22 = .ok (.ifCond .eq 6, 3) := by decide +kernel
theorem dX9_states_25 : decode cX9_states 25 = .ok (.bipush (-4), 2) := by decide +kernel
theorem dX9_states_27 : decode cX9_states 27 = .ok (.ireturn, 1) := by decide +kernel
theorem dX9_states_28 : decode cX9_states 28 = .ok (.aload_n 0, 1) := by decide +kernel
theorem dX9_states_29 : decode cX9_states 29 = .ok (.getfield 76, 3) := by decide +kernel
theorem dX9_states_32 : decode cX9_states 32 = .ok (.invokevirtual 302, 3) := by decide +kernel
theorem dX9_states_35 : decode cX9_states 35 = .ok (.aload_n 0, 1) := by decide +kernel
theorem dX9_states_36 : decode cX9_states 36 = .ok (.getfield 76, 3) := by decide +kernel
theorem dX9_states_39 : decode cX9_states 39 = .ok (.aload_n 0, 1) := by decide +kernel
theorem dX9_states_40 : decode cX9_states 40 = .ok (.getfield 19, 3) := by decide +kernel
theorem dX9_states_43 : decode cX9_states 43 = .ok (.aload_n 0, 1) := by decide +kernel
theorem dX9_states_44 : decode cX9_states 44 = .ok (.getfield 26, 3) := by decide +kernel
theorem dX9_states_47 : decode cX9_states 47 = .ok (.iload_n 1, 1) := by decide +kernel
theorem dX9_states_48 : decode cX9_states 48 = .ok (.invokevirtual 294, 3) := by decide +kernel
theorem dX9_states_51 : decode cX9_states 51 = .ok (.pop, 1) := by decide +kernel
theorem dX9_states_52 : decode cX9_states 52 = .ok (.aload_n 0, 1) := by decide +kernel
theorem dX9_states_53 : decode cX9_states 53 = .ok (.getfield 76, 3) := by decide +kernel
theorem dX9_states_56 : decode cX9_states 56 = .ok (.getfield 298, 3) := by decide +kernel
theorem dX9_states_59 : decode cX9_states 59 = .ok (.ifCond .eq 6, 3) := by decide +kernel
theorem dX9_states_62 : decode cX9_states 62 = .ok (.bipush (-3), 2) := by decide +kernel
theorem dX9_states_64 : decode cX9_states 64 = .ok (.ireturn, 1) := by decide +kernel
theorem dX9_states_65 : decode cX9_states 65 = .ok (.aload_n 0, 1) := by decide +kernel
theorem dX9_states_66 : decode cX9_states 66 = .ok (.invokevirtual 192, 3) := by decide +kernel
theorem dX9_states_69 : decode cX9_states 69 = .ok (.aload_n 0, 1) := by decide +kernel
theorem dX9_states_70 : decode cX9_states 70 = .ok (.aload_n 0, 1) := by decide +kernel
theorem dX9_states_71 : decode cX9_states 71 = .ok (.getfield 76, 3) := by decide +kernel
theorem dX9_states_74 : decode cX9_states 74 = .ok (.invokevirtual 305, 3) := by decide +kernel
theorem dX9_states_77 : decode cX9_states 77 = .ok (.aload_n 0, 1) := by decide +kernel
theorem dX9_states_78 : decode cX9_states 78 = .ok (.getfield 19, 3) := by decide +kernel
theorem dX9_states_81 : decode cX9_states 81 = .ok (.invokevirtual 284, 3) := by decide +kernel
theorem dX9_states_84 : decode cX9_states 84 = .ok (.iand, 1) := by decide +kernel
theorem dX9_states_85 : decode cX9_states 85 = .ok (.i2l, 1) := by decide +kernel
theorem dX9_states_86 : decode cX9_states 86 = .ok (.invokevirtual 195, 3) := by decide +kernel
theorem dX9_states_89 : decode cX9_states 89 = .ok (.aload_n 0, 1) := by decide +kernel
theorem dX9_states_90 : decode cX9_states 90 = .ok (.aload_n 0, 1) := by decide +kernel
theorem dX9_states_91 : decode cX9_states 91 = .ok (.getfield 76, 3) := by decide +kernel
theorem dX9_states_94 : decode cX9_states 94 = .ok (.invokevirtual 308, 3) := by decide +kernel
theorem dX9_states_97 : decode cX9_states 97 = .ok (.i2l, 1) := by decide +kernel
theorem dX9_states_98 : decode cX9_states 98 = .ok (.invokevirtual 195, 3) := by decide +kernel
theorem dX9_states_101 : decode cX9_states 101 = .ok (.aload_n 0, 1) := by decide +kernel
theorem dX9_states_102 : decode cX9_states 102 = .ok (.getfield 76, 3) := by decide +kernel
theorem dX9_states_105 : decode cX9_states 105 = .ok (.getfield 311, 3) := by decide +kernel
theorem dX9_states_108 : decode cX9_states 108 = .ok (.ireturn, 1) := by decide +kernel
theorem dX9_stuck_0 : decode cX9_stuck 0 = .ok (.aload_n 0, 1) := by decide +kernel
theorem dX9_stuck_1 : decode cX9_stuck 1 = .ok (.getfield 19, 3) := by decide +kernel
theorem dX9_stuck_4 : decode cX9_stuck 4 = .ok (.getfield 108, 3) := by decide +kernel
theorem dX9_stuck_7 : decode cX9_stuck 7 = .ok (.getfield 277, 3) := by decide +kernel
theorem dX9_stuck_10 : decode cX9_stuck 10 = .ok (.ifCond .eq 6, 3) := by decide +kernel
theorem dX9_stuck_13 : decode cX9_stuck 13 = .ok (.bipush (-4), 2) := by decide +kernel
theorem dX9_stuck_15 : decode cX9_stuck 15 = .ok (.ireturn, 1) := by decide +kernel
theorem dX9_stuck_16 : decode cX9_stuck 16 = .ok (.aload_n 0, 1) := by decide +kernel
theorem dX9_stuck_17 : decode cX9_stuck 17 = .ok (.getfield 76, 3) := by decide +kernel
theorem dX9_stuck_20 : decode cX9_stuck 20 = .ok (.invokevirtual 302, 3) := by decide +kernel
theorem dX9_stuck_23 : decode cX9_stuck 23 = .ok (.aload_n 0, 1) := by decide +kernel
theorem dX9_stuck_24 : decode cX9_stuck 24 = .ok (.getfield 76, 3) := by decide +kernel
theorem dX9_stuck_27 : decode cX9_stuck 27 = .ok (.aload_n 0, 1) := by decide +kernel
theorem dX9_stuck_28 : decode cX9_stuck 28 = .ok (.getfield 19, 3) := by decide +kernel
theorem dX9_stuck_31 : decode cX9_stuck 31 = .ok (.aload_n 0, 1) := by decide +kernel
theorem dX9_stuck_32 : decode cX9_stuck 32 = .ok (.getfield 26, 3) := by decide +kernel
theorem dX9_stuck_35 : decode cX9_stuck 35 = .ok (.sipush 3000, 3) := by decide +kernel
theorem dX9_stuck_38 : decode cX9_stuck 38 = .ok (.invokevirtual 294, 3) := by decide +kernel
theorem dX9_stuck_41 : decode cX9_stuck 41 = .ok (.pop, 1) := by decide +kernel
theorem dX9_stuck_42 : decode cX9_stuck 42 = .ok (.aload_n 0, 1) := by decide +kernel
theorem dX9_stuck_43 : decode cX9_stuck 43 = .ok (.getfield 76, 3) := by decide +kernel
theorem dX9_stuck_46 : decode cX9_stuck 46 = .ok (.getfield 298, 3) := by decide +kernel
theorem dX9_stuck_49 : decode cX9_stuck 49 = .ok (.ifCond .eq 6, 3) := by decide +kernel
theorem dX9_stuck_52 : decode cX9_stuck 52 = .ok (.bipush (-3), 2) := by decide +kernel
theorem dX9_stuck_54 : decode cX9_stuck 54 = .ok (.ireturn, 1) := by decide +kernel
theorem dX9_stuck_55 : decode cX9_stuck 55 = .ok (.aload_n 0, 1) := by decide +kernel
theorem dX9_stuck_56 : decode cX9_stuck 56 = .ok (.getfield 19, 3) := by decide +kernel
theorem dX9_stuck_59 : decode cX9_stuck 59 = .ok (.invokevirtual 284, 3) := by decide +kernel
theorem dX9_stuck_62 : decode cX9_stuck 62 = .ok (.aload_n 0, 1) := by decide +kernel
theorem dX9_stuck_63 : decode cX9_stuck 63 = .ok (.getfield 76, 3) := by decide +kernel
theorem dX9_stuck_66 : decode cX9_stuck 66 = .ok (.invokevirtual 305, 3) := by decide +kernel
theorem dX9_stuck_69 : decode cX9_stuck 69 = .ok (.iconst (-1), 1) := by decide +kernel
theorem dX9_stuck_70 : decode cX9_stuck 70 = .ok (.ixor, 1) := by decide +kernel
theorem dX9_stuck_71 : decode cX9_stuck 71 = .ok (.iand, 1) := by decide +kernel
theorem dX9_stuck_72 : decode cX9_stuck 72 = .ok (.ireturn, 1) := by decide +kernel
theorem dX9_saw_0 : decode cX9_saw 0 = .ok (.aload_n 0, 1) := by decide +kernel
theorem dX9_saw_1 : decode cX9_saw 1 = .ok (.getfield 19, 3) := by decide +kernel
theorem dX9_saw_4 : decode cX9_saw 4 = .ok (.iload_n 1, 1) := by decide +kernel
theorem dX9_saw_5 : decode cX9_saw 5 = .ok (.invokevirtual 148, 3) := by decide +kernel
theorem dX9_saw_8 : decode cX9_saw 8 = .ok (.ifCond .eq 23, 3) := by decide +kernel
theorem dX9_saw_11 : decode cX9_saw 11 = .ok (.aload_n 0, 1) := by decide +kernel
theorem dX9_saw_12 : decode cX9_saw 12 = .ok (.getfield 19, 3) := by decide +kernel
theorem dX9_saw_15 : decode cX9_saw 15 = .ok (.iload_n 3, 1) := by decide +kernel
theorem dX9_saw_16 : decode cX9_saw 16 = .ok (.invokevirtual 148, 3) := by decide +kernel
theorem dX9_saw_19 : decode cX9_saw 19 = .ok (.ifCond .eq 12, 3) := by decide +kernel
theorem dX9_saw_22 : decode cX9_saw 22 = .ok (.iload_n 1, 1) := by decide +kernel
theorem dX9_saw_23 : decode cX9_saw 23 = .ok (.iload_n 3, 1) := by decide +kernel
theorem dX9_saw_24 : decode cX9_saw 24 = .ok (.if_icmp .eq 7, 3) := by decide +kernel
theorem dX9_saw_27 : decode cX9_saw 27 = .ok (.iconst 1, 1) := by decide +kernel
theorem dX9_saw_28 : decode cX9_saw 28 = .ok (.goto 4, 3) := by decide +kernel
theorem dX9_saw_31 : decode cX9_saw 31 = .ok (.iconst 0, 1) := by decide +kernel
theorem dX9_saw_32 : decode cX9_saw 32 = .ok (.istore 4, 2) := by decide +kernel
theorem dX9_saw_34 : decode cX9_saw 34 = .ok (.iload 4, 2) := by decide +kernel
theorem dX9_saw_36 : decode cX9_saw 36 = .ok (.ifCond .eq 29, 3) := by decide +kernel
theorem dX9_saw_39 : decode cX9_saw 39 = .ok (.iload_n 2, 1) := by decide +kernel
theorem dX9_saw_40 : decode cX9_saw 40 = .ok (.aload_n 0, 1) := by decide +kernel
theorem dX9_saw_41 : decode cX9_saw 41 = .ok (.getfield 19, 3) := by decide +kernel
theorem dX9_saw_44 : decode cX9_saw 44 = .ok (.invokevirtual 284, 3) := by decide +kernel
theorem dX9_saw_47 : decode cX9_saw 47 = .ok (.iconst (-1), 1) := by decide +kernel
theorem dX9_saw_48 : decode cX9_saw 48 = .ok (.ixor, 1) := by decide +kernel
theorem dX9_saw_49 : decode cX9_saw 49 = .ok (.iand, 1) := by decide +kernel
theorem dX9_saw_50 : decode cX9_saw 50 = .ok (.ifCond .ne 15, 3) := by decide +kernel
theorem dX9_saw_53 : decode cX9_saw 53 = .ok (.aload_n 0, 1) := by decide +kernel
theorem dX9_saw_54 : decode cX9_saw 54 = .ok (.getfield 51, 3) := by decide +kernel
theorem dX9_saw_57 : decode cX9_saw 57 = .ok (.getfield 93, 3) := by decide +kernel
theorem dX9_saw_60 : decode cX9_saw 60 = .ok (.bipush 8, 2) := by decide +kernel
theorem dX9_saw_62 : decode cX9_saw 62 = .ok (.if_icmp .lt 5, 3) := by decide +kernel
theorem dX9_saw_65 : decode cX9_saw 65 = .ok (.iconst (-1), 1) := by decide +kernel
theorem dX9_saw_66 : decode cX9_saw 66 = .ok (.ireturn, 1) := by decide +kernel
theorem dX9_saw_67 : decode cX9_saw 67 = .ok (.aload_n 0, 1) := by decide +kernel
theorem dX9_saw_68 : decode cX9_saw 68 = .ok (.getfield 51, 3) := by decide +kernel
theorem dX9_saw_71 : decode cX9_saw 71 = .ok (.iload_n 1, 1) := by decide +kernel
theorem dX9_saw_72 : decode cX9_saw 72 = .ok (.iload_n 2, 1) := by decide +kernel
theorem dX9_saw_73 : decode cX9_saw 73 = .ok (.iload_n 3, 1) := by decide +kernel
theorem dX9_saw_74 : decode cX9_saw 74 = .ok (.invokevirtual 314, 3) := by decide +kernel
theorem dX9_saw_77 : decode cX9_saw 77 = .ok (.aload_n 0, 1) := by decide +kernel
theorem dX9_saw_78 : decode cX9_saw 78 = .ok (.getfield 51, 3) := by decide +kernel
theorem dX9_saw_81 : decode cX9_saw 81 = .ok (.getfield 93, 3) := by decide +kernel
theorem dX9_saw_84 : decode cX9_saw 84 = .ok (.ireturn, 1) := by decide +kernel
theorem dX9_forget_0 : decode cX9_forget 0 = .ok (.aload_n 0, 1) := by decide +kernel
theorem dX9_forget_1 : decode cX9_forget 1 = .ok (.getfield 51, 3) := by decide +kernel
theorem dX9_forget_4 : decode cX9_forget 4 = .ok (.getfield 93, 3) := by decide +kernel
theorem dX9_forget_7 : decode cX9_forget 7 = .ok (.istore_n 1, 1) := by decide +kernel
theorem dX9_forget_8 : decode cX9_forget 8 = .ok (.aload_n 0, 1) := by decide +kernel
theorem dX9_forget_9 : decode cX9_forget 9 = .ok (.getfield 51, 3) := by decide +kernel
theorem dX9_forget_12 : decode cX9_forget 12 = .ok (.iconst 0, 1) := by decide +kernel
theorem dX9_forget_13 : decode cX9_forget 13 = .ok (.putfield 93, 3) := by decide +kernel
theorem dX9_forget_16 : decode cX9_forget 16 = .ok (.iload_n 1, 1) := by decide +kernel
theorem dX9_forget_17 : decode cX9_forget 17 = .ok (.ireturn, 1) := by decide +kernel
theorem dX9_believed_0 : decode cX9_believed 0 = .ok (.aload_n 0, 1) := by decide +kernel
theorem dX9_believed_1 : decode cX9_believed 1 = .ok (.getfield 51, 3) := by decide +kernel
theorem dX9_believed_4 : decode cX9_believed 4 = .ok (.aload_n 0, 1) := by decide +kernel
theorem dX9_believed_5 : decode cX9_believed 5 = .ok (.getfield 26, 3) := by decide +kernel
theorem dX9_believed_8 : decode cX9_believed 8 = .ok (.getfield 133, 3) := by decide +kernel
theorem dX9_believed_11 : decode cX9_believed 11 = .ok (.invokevirtual 318, 3) := by decide +kernel
theorem dX9_believed_14 : decode cX9_believed 14 = .ok (.aload_n 0, 1) := by decide +kernel
theorem dX9_believed_15 : decode cX9_believed 15 = .ok (.getfield 51, 3) := by decide +kernel
theorem dX9_believed_18 : decode cX9_believed 18 = .ok (.aload_n 0, 1) := by decide +kernel
theorem dX9_believed_19 : decode cX9_believed 19 = .ok (.getfield 19, 3) := by decide +kernel
theorem dX9_believed_22 : decode cX9_believed 22 = .ok (.invokevirtual 322, 3) := by decide +kernel
theorem dX9_believed_25 : decode cX9_believed 25 = .ok (.istore_n 1, 1) := by decide +kernel
theorem dX9_believed_26 : decode cX9_believed 26 = .ok (.aload_n 0, 1) := by decide +kernel
theorem dX9_believed_27 : decode cX9_believed 27 = .ok (.invokevirtual 192, 3) := by decide +kernel
theorem dX9_believed_30 : decode cX9_believed 30 = .ok (.aload_n 0, 1) := by decide +kernel
theorem dX9_believed_31 : decode cX9_believed 31 = .ok (.iload_n 1, 1) := by decide +kernel
theorem dX9_believed_32 : decode cX9_believed 32 = .ok (.i2l, 1) := by decide +kernel
theorem dX9_believed_33 : decode cX9_believed 33 = .ok (.invokevirtual 195, 3) := by decide +kernel
theorem dX9_believed_36 : decode cX9_believed 36 = .ok (.iload_n 1, 1) := by decide +kernel
theorem dX9_believed_37 : decode cX9_believed 37 = .ok (.ifCond .ne 7, 3) := by decide +kernel
theorem dX9_believed_40 : decode cX9_believed 40 = .ok (.iconst 1, 1) := by decide +kernel
theorem dX9_believed_41 : decode cX9_believed 41 = .ok (.goto 4, 3) := by decide +kernel
theorem dX9_believed_44 : decode cX9_believed 44 = .ok (.iconst 0, 1) := by decide +kernel
theorem dX9_believed_45 : decode cX9_believed 45 = .ok (.ireturn, 1) := by decide +kernel
theorem dX9_fits_0 : decode cX9_fits 0 = .ok (.aload_n 0, 1) := by decide +kernel
theorem dX9_fits_1 : decode cX9_fits 1 = .ok (.getfield 19, 3) := by decide +kernel
theorem dX9_fits_4 : decode cX9_fits 4 = .ok (.iload_n 1, 1) := by decide +kernel
theorem dX9_fits_5 : decode cX9_fits 5 = .ok (.invokevirtual 122, 3) := by decide +kernel
theorem dX9_fits_8 : decode cX9_fits 8 = .ok (.ifCond .ne 5, 3) := by decide +kernel
theorem dX9_fits_11 : decode cX9_fits 11 = .ok (.iconst (-1), 1) := by decide +kernel
theorem dX9_fits_12 : decode cX9_fits 12 = .ok (.ireturn, 1) := by decide +kernel
theorem dX9_fits_13 : decode cX9_fits 13 = .ok (.aload_n 0, 1) := by decide +kernel
theorem dX9_fits_14 : decode cX9_fits 14 = .ok (.getfield 51, 3) := by decide +kernel
theorem dX9_fits_17 : decode cX9_fits 17 = .ok (.aload_n 0, 1) := by decide +kernel
theorem dX9_fits_18 : decode cX9_fits 18 = .ok (.getfield 26, 3) := by decide +kernel
theorem dX9_fits_21 : decode cX9_fits 21 = .ok (.getfield 133, 3) := by decide +kernel
theorem dX9_fits_24 : decode cX9_fits 24 = .ok (.invokevirtual 318, 3) := by decide +kernel
theorem dX9_fits_27 : decode cX9_fits 27 = .ok (.iconst 0, 1) := by decide +kernel
theorem dX9_fits_28 : decode cX9_fits 28 = .ok (.istore_n 2, 1) := by decide +kernel
theorem dX9_fits_29 : decode cX9_fits 29 = .ok (.iconst (-1), 1) := by decide +kernel
theorem dX9_fits_30 : decode cX9_fits 30 = .ok (.istore_n 3, 1) := by decide +kernel
theorem dX9_fits_31 : decode cX9_fits 31 = .ok (.iload_n 3, 1) := by decide +kernel
theorem dX9_fits_32 : decode cX9_fits 32 = .ok (.aload_n 0, 1) := by decide +kernel
theorem dX9_fits_33 : decode cX9_fits 33 = .ok (.getfield 19, 3) := by decide +kernel
theorem dX9_fits_36 : decode cX9_fits 36 = .ok (.getfield 229, 3) := by decide +kernel
theorem dX9_fits_39 : decode cX9_fits 39 = .ok (.if_icmp .ge 41, 3) := by decide +kernel
