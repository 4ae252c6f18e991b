theorem dX1_init_0 : decode cX1_init 0 = .ok (.aload_n 0, 1) := by decide +kernel
theorem dX1_init_1 : decode cX1_init 1 = .ok (.invokespecial 3, 3) := by decide +kernel
theorem dX1_init_4 : decode cX1_init 4 = .ok (.aload_n 0, 1) := by decide +kernel
theorem dX1_init_5 : decode cX1_init 5 = .ok (.iconst 2, 1) := by decide +kernel
theorem dX1_init_6 : decode cX1_init 6 = .ok (.putfield 9, 3) := by decide +kernel
theorem dX1_init_9 : decode cX1_init 9 = .ok (.aload_n 0, 1) := by decide +kernel
theorem dX1_init_10 : decode cX1_init 10 = .ok (.iconst (-1), 1) := by decide +kernel
theorem dX1_init_11 : decode cX1_init 11 = .ok (.putfield 15, 3) := by decide +kernel
theorem dX1_init_14 : decode cX1_init 14 = .ok (.aload_n 0, 1) := by decide +kernel
theorem dX1_init_15 : decode cX1_init 15 = .ok (.iconst 0, 1) := by decide +kernel
theorem dX1_init_16 : decode cX1_init 16 = .ok (.putfield 18, 3) := by decide +kernel
theorem dX1_init_19 : decode cX1_init 19 = .ok (.aload_n 0, 1) := by decide +kernel
theorem dX1_init_20 : decode cX1_init 20 = .ok (.bipush 10, 2) := by decide +kernel
theorem dX1_init_22 : decode cX1_init 22 = .ok (.newarray .int, 2) := by decide +kernel
theorem dX1_init_24 : decode cX1_init 24 = .ok (.putfield 21, 3) := by decide +kernel
theorem dX1_init_27 : decode cX1_init 27 = .ok (.aload_n 0, 1) := by decide +kernel
theorem dX1_init_28 : decode cX1_init 28 = .ok (.bipush 10, 2) := by decide +kernel
theorem dX1_init_30 : decode cX1_init 30 = .ok (.newarray .int, 2) := by decide +kernel
theorem dX1_init_32 : decode cX1_init 32 = .ok (.putfield 25, 3) := by decide +kernel
theorem dX1_init_35 : decode cX1_init 35 = .ok (.aload_n 0, 1) := by decide +kernel
theorem dX1_init_36 : decode cX1_init 36 = .ok (.new 28, 3) := by decide +kernel
theorem dX1_init_39 : decode cX1_init 39 = .ok (.dup, 1) := by decide +kernel
theorem dX1_init_40 : decode cX1_init 40 = .ok (.invokespecial 30, 3) := by decide +kernel
theorem dX1_init_43 : decode cX1_init 43 = .ok (.putfield 31, 3) := by decide +kernel
theorem dX1_init_46 : decode cX1_init 46 = .ok (.aload_n 0, 1) := by decide +kernel
theorem dX1_init_47 : decode cX1_init 47 = .ok (.new 35, 3) := by decide +kernel
theorem dX1_init_50 : decode cX1_init 50 = .ok (.dup, 1) := by decide +kernel
theorem dX1_init_51 : decode cX1_init 51 = .ok (.invokespecial 37, 3) := by decide +kernel
theorem dX1_init_54 : decode cX1_init 54 = .ok (.putfield 38, 3) := by decide +kernel
theorem dX1_init_57 : decode cX1_init 57 = .ok (.return_, 1) := by decide +kernel
theorem dX1_empty_0 : decode cX1_empty 0 = .ok (.aload_n 0, 1) := by decide +kernel
theorem dX1_empty_1 : decode cX1_empty 1 = .ok (.iload_n 1, 1) := by decide +kernel
theorem dX1_empty_2 : decode cX1_empty 2 = .ok (.putfield 9, 3) := by decide +kernel
theorem dX1_empty_5 : decode cX1_empty 5 = .ok (.aload_n 0, 1) := by decide +kernel
theorem dX1_empty_6 : decode cX1_empty 6 = .ok (.iconst (-1), 1) := by decide +kernel
theorem dX1_empty_7 : decode cX1_empty 7 = .ok (.putfield 15, 3) := by decide +kernel
theorem dX1_empty_10 : decode cX1_empty 10 = .ok (.aload_n 0, 1) := by decide +kernel
theorem dX1_empty_11 : decode cX1_empty 11 = .ok (.iconst 0, 1) := by decide +kernel
theorem dX1_empty_12 : decode cX1_empty 12 = .ok (.putfield 18, 3) := by decide +kernel
theorem dX1_empty_15 : decode cX1_empty 15 = .ok (.return_, 1) := by decide +kernel
theorem dX1_hasFloor_0 : decode cX1_hasFloor 0 = .ok (.iload_n 1, 1) := by decide +kernel
theorem dX1_hasFloor_1 : decode cX1_hasFloor 1 = .ok (.ifCond .lt 15, 3) := by decide +kernel
theorem dX1_hasFloor_4 : decode cX1_hasFloor 4 = .ok (.iload_n 1, 1) := by decide +kernel
theorem dX1_hasFloor_5 : decode cX1_hasFloor 5 = .ok (.aload_n 0, 1) := by decide +kernel
theorem dX1_hasFloor_6 : decode cX1_hasFloor 6 = .ok (.getfield 9, 3) := by decide +kernel
theorem dX1_hasFloor_9 : decode cX1_hasFloor 9 = .ok (.if_icmp .ge 7, 3) := by decide +kernel
theorem dX1_hasFloor_12 : decode cX1_hasFloor 12 = .ok (.iconst 1, 1) := by decide +kernel
theorem dX1_hasFloor_13 : decode cX1_hasFloor 13 = .ok (.goto 4, 3) := by decide +kernel
theorem dX1_hasFloor_16 : decode cX1_hasFloor 16 = .ok (.iconst 0, 1) := by decide +kernel
theorem dX1_hasFloor_17 : decode cX1_hasFloor 17 = .ok (.ireturn, 1) := by decide +kernel
theorem dX1_canBeWish_0 : decode cX1_canBeWish 0 = .ok (.iload_n 1, 1) := by decide +kernel
theorem dX1_canBeWish_1 : decode cX1_canBeWish 1 = .ok (.iconst (-1), 1) := by decide +kernel
theorem dX1_canBeWish_2 : decode cX1_canBeWish 2 = .ok (.if_icmp .eq 11, 3) := by decide +kernel
theorem dX1_canBeWish_5 : decode cX1_canBeWish 5 = .ok (.aload_n 0, 1) := by decide +kernel
theorem dX1_canBeWish_6 : decode cX1_canBeWish 6 = .ok (.iload_n 1, 1) := by decide +kernel
theorem dX1_canBeWish_7 : decode cX1_canBeWish 7 = .ok (.invokevirtual 42, 3) := by decide +kernel
theorem dX1_canBeWish_10 : decode cX1_canBeWish 10 = .ok (.ifCond .eq 7, 3) := by decide +kernel
theorem dX1_canBeWish_13 : decode cX1_canBeWish 13 = .ok (.iconst 1, 1) := by decide +kernel
theorem dX1_canBeWish_14 : decode cX1_canBeWish 14 = .ok (.goto 4, 3) := by decide +kernel
theorem dX1_canBeWish_17 : decode cX1_canBeWish 17 = .ok (.iconst 0, 1) := by decide +kernel
theorem dX1_canBeWish_18 : decode cX1_canBeWish 18 = .ok (.ireturn, 1) := by decide +kernel
theorem dX1_hasRider_0 : decode cX1_hasRider 0 = .ok (.iload_n 1, 1) := by decide +kernel
theorem dX1_hasRider_1 : decode cX1_hasRider 1 = .ok (.ifCond .lt 15, 3) := by decide +kernel
theorem dX1_hasRider_4 : decode cX1_hasRider 4 = .ok (.iload_n 1, 1) := by decide +kernel
theorem dX1_hasRider_5 : decode cX1_hasRider 5 = .ok (.aload_n 0, 1) := by decide +kernel
theorem dX1_hasRider_6 : decode cX1_hasRider 6 = .ok (.getfield 18, 3) := by decide +kernel
theorem dX1_hasRider_9 : decode cX1_hasRider 9 = .ok (.if_icmp .ge 7, 3) := by decide +kernel
theorem dX1_hasRider_12 : decode cX1_hasRider 12 = .ok (.iconst 1, 1) := by decide +kernel
theorem dX1_hasRider_13 : decode cX1_hasRider 13 = .ok (.goto 4, 3) := by decide +kernel
theorem dX1_hasRider_16 : decode cX1_hasRider 16 = .ok (.iconst 0, 1) := by decide +kernel
theorem dX1_hasRider_17 : decode cX1_hasRider 17 = .ok (.ireturn, 1) := by decide +kernel
theorem dX1_everybody_0 : decode cX1_everybody 0 = .ok (.iconst 1, 1) := by decide +kernel
theorem dX1_everybody_1 : decode cX1_everybody 1 = .ok (.aload_n 0, 1) := by decide +kernel
theorem dX1_everybody_2 : decode cX1_everybody 2 = .ok (.getfield 18, 3) := by decide +kernel
theorem dX1_everybody_5 : decode cX1_everybody 5 = .ok (.ishl, 1) := by decide +kernel
theorem dX1_everybody_6 : decode cX1_everybody 6 = .ok (.iconst 1, 1) := by decide +kernel
theorem dX1_everybody_7 : decode cX1_everybody 7 = .ok (.isub, 1) := by decide +kernel
theorem dX1_everybody_8 : decode cX1_everybody 8 = .ok (.ireturn, 1) := by decide +kernel
theorem dX1_look_0 : decode cX1_look 0 = .ok (.aload_n 0, 1) := by decide +kernel
theorem dX1_look_1 : decode cX1_look 1 = .ok (.getfield 38, 3) := by decide +kernel
theorem dX1_look_4 : decode cX1_look 4 = .ok (.getfield 46, 3) := by decide +kernel
theorem dX1_look_7 : decode cX1_look 7 = .ok (.iconst 0, 1) := by decide +kernel
theorem dX1_look_8 : decode cX1_look 8 = .ok (.invokestatic 49, 3) := by decide +kernel
theorem dX1_look_11 : decode cX1_look 11 = .ok (.aload_n 0, 1) := by decide +kernel
theorem dX1_look_12 : decode cX1_look 12 = .ok (.getfield 38, 3) := by decide +kernel
theorem dX1_look_15 : decode cX1_look 15 = .ok (.getfield 55, 3) := by decide +kernel
theorem dX1_look_18 : decode cX1_look 18 = .ok (.iconst 0, 1) := by decide +kernel
theorem dX1_look_19 : decode cX1_look 19 = .ok (.invokestatic 49, 3) := by decide +kernel
theorem dX1_look_22 : decode cX1_look 22 = .ok (.aload_n 0, 1) := by decide +kernel
theorem dX1_look_23 : decode cX1_look 23 = .ok (.getfield 38, 3) := by decide +kernel
theorem dX1_look_26 : decode cX1_look 26 = .ok (.iload_n 2, 1) := by decide +kernel
theorem dX1_look_27 : decode cX1_look 27 = .ok (.invokestatic 58, 3) := by decide +kernel
theorem dX1_look_30 : decode cX1_look 30 = .ok (.putfield 64, 3) := by decide +kernel
theorem dX1_look_33 : decode cX1_look 33 = .ok (.aload_n 0, 1) := by decide +kernel
theorem dX1_look_34 : decode cX1_look 34 = .ok (.getfield 38, 3) := by decide +kernel
theorem dX1_look_37 : decode cX1_look 37 = .ok (.aload_n 1, 1) := by decide +kernel
theorem dX1_look_38 : decode cX1_look 38 = .ok (.getfield 67, 3) := by decide +kernel
theorem dX1_look_41 : decode cX1_look 41 = .ok (.putfield 72, 3) := by decide +kernel
theorem dX1_look_44 : decode cX1_look 44 = .ok (.aload_n 0, 1) := by decide +kernel
theorem dX1_look_45 : decode cX1_look 45 = .ok (.getfield 38, 3) := by decide +kernel
theorem dX1_look_48 : decode cX1_look 48 = .ok (.aload_n 1, 1) := by decide +kernel
theorem dX1_look_49 : decode cX1_look 49 = .ok (.getfield 73, 3) := by decide +kernel
theorem dX1_look_52 : decode cX1_look 52 = .ok (.putfield 76, 3) := by decide +kernel
theorem dX1_look_55 : decode cX1_look 55 = .ok (.iconst 0, 1) := by decide +kernel
theorem dX1_look_56 : decode cX1_look 56 = .ok (.istore_n 3, 1) := by decide +kernel
theorem dX1_look_57 : decode cX1_look 57 = .ok (.iload_n 3, 1) := by decide +kernel
theorem dX1_look_58 : decode cX1_look 58 = .ok (.aload_n 0, 1) := by decide +kernel
theorem dX1_look_59 : decode cX1_look 59 = .ok (.getfield 18, 3) := by decide +kernel
theorem dX1_look_62 : decode cX1_look 62 = .ok (.if_icmp .ge 52, 3) := by decide +kernel
theorem dX1_look_65 : decode cX1_look 65 = .ok (.iload_n 2, 1) := by decide +kernel
theorem dX1_look_66 : decode cX1_look 66 = .ok (.iload_n 3, 1) := by decide +kernel
theorem dX1_look_67 : decode cX1_look 67 = .ok (.ishr, 1) := by decide +kernel
theorem dX1_look_68 : decode cX1_look 68 = .ok (.iconst 1, 1) := by decide +kernel
theorem dX1_look_69 : decode cX1_look 69 = .ok (.iand, 1) := by decide +kernel
theorem dX1_look_70 : decode cX1_look 70 = .ok (.ifCond .ne 22, 3) := by decide +kernel
theorem dX1_look_73 : decode cX1_look 73 = .ok (.aload_n 0, 1) := by decide +kernel
theorem dX1_look_74 : decode cX1_look 74 = .ok (.getfield 38, 3) := by decide +kernel
theorem dX1_look_77 : decode cX1_look 77 = .ok (.getfield 55, 3) := by decide +kernel
theorem dX1_look_80 : decode cX1_look 80 = .ok (.aload_n 1, 1) := by decide +kernel
theorem dX1_look_81 : decode cX1_look 81 = .ok (.getfield 77, 3) := by decide +kernel
theorem dX1_look_84 : decode cX1_look 84 = .ok (.iload_n 3, 1) := by decide +kernel
theorem dX1_look_85 : decode cX1_look 85 = .ok (.iaload, 1) := by decide +kernel
theorem dX1_look_86 : decode cX1_look 86 = .ok (.invokestatic 80, 3) := by decide +kernel
theorem dX1_look_89 : decode cX1_look 89 = .ok (.goto 19, 3) := by decide +kernel
theorem dX1_look_92 : decode cX1_look 92 = .ok (.aload_n 0, 1) := by decide +kernel
theorem dX1_look_93 : decode cX1_look 93 = .ok (.getfield 38, 3) := by decide +kernel
theorem dX1_look_96 : decode cX1_look 96 = .ok (.getfield 46, 3) := by decide +kernel
theorem dX1_look_99 : decode cX1_look 99 = .ok (.aload_n 1, 1) := by decide +kernel
theorem dX1_look_100 : decode cX1_look 100 = .ok (.getfield 83, 3) := by decide +kernel
theorem dX1_look_103 : decode cX1_look 103 = .ok (.iload_n 3, 1) := by decide +kernel
theorem dX1_look_104 : decode cX1_look 104 = .ok (.iaload, 1) := by decide +kernel
theorem dX1_look_105 : decode cX1_look 105 = .ok (.invokestatic 80, 3) := by decide +kernel
theorem dX1_look_108 : decode cX1_look 108 = .ok (.iinc 3 1, 3) := by decide +kernel
theorem dX1_look_111 : decode cX1_look 111 = .ok (.goto (-54), 3) := by decide +kernel
theorem dX1_look_114 : decode cX1_look 114 = .ok (.return_, 1) := by decide +kernel
theorem dX1_addAt_0 : decode cX1_addAt 0 = .ok (.iload_n 1, 1) := by decide +kernel
theorem dX1_addAt_1 : decode cX1_addAt 1 = .ok (.ifCond .lt 16, 3) := by decide +kernel
theorem dX1_addAt_4 : decode cX1_addAt 4 = .ok (.iload_n 1, 1) := by decide +kernel
theorem dX1_addAt_5 : decode cX1_addAt 5 = .ok (.aload_n 0, 1) := by decide +kernel
theorem dX1_addAt_6 : decode cX1_addAt 6 = .ok (.arraylength, 1) := by decide +kernel
theorem dX1_addAt_7 : decode cX1_addAt 7 = .ok (.if_icmp .ge 10, 3) := by decide +kernel
theorem dX1_addAt_10 : decode cX1_addAt 10 = .ok (.aload_n 0, 1) := by decide +kernel
theorem dX1_addAt_11 : decode cX1_addAt 11 = .ok (.iload_n 1, 1) := by decide +kernel
theorem dX1_addAt_12 : decode cX1_addAt 12 = .ok (.dup2, 1) := by decide +kernel
theorem dX1_addAt_13 : decode cX1_addAt 13 = .ok (.iaload, 1) := by decide +kernel
theorem dX1_addAt_14 : decode cX1_addAt 14 = .ok (.iconst 1, 1) := by decide +kernel
theorem dX1_addAt_15 : decode cX1_addAt 15 = .ok (.iadd, 1) := by decide +kernel
theorem dX1_addAt_16 : decode cX1_addAt 16 = .ok (.iastore, 1) := by decide +kernel
theorem dX1_addAt_17 : decode cX1_addAt 17 = .ok (.return_, 1) := by decide +kernel
theorem dX1_nextStop_0 : decode cX1_nextStop 0 = .ok (.aload_n 1, 1) := by decide +kernel
theorem dX1_nextStop_1 : decode cX1_nextStop 1 = .ok (.getfield 73, 3) := by decide +kernel
theorem dX1_nextStop_4 : decode cX1_nextStop 4 = .ok (.iconst 1, 1) := by decide +kernel
theorem dX1_nextStop_5 : decode cX1_nextStop 5 = .ok (.iadd, 1) := by decide +kernel
theorem dX1_nextStop_6 : decode cX1_nextStop 6 = .ok (.bipush 7, 2) := by decide +kernel
theorem dX1_nextStop_8 : decode cX1_nextStop 8 = .ok (.irem, 1) := by decide +kernel
theorem dX1_nextStop_9 : decode cX1_nextStop 9 = .ok (.ifCond .ne 27, 3) := by decide +kernel
theorem dX1_nextStop_12 : decode cX1_nextStop 12 = .ok (.aload_n 0, 1) := by decide +kernel
theorem dX1_nextStop_13 : decode cX1_nextStop 13 = .ok (.getfield 15, 3) := by decide +kernel
theorem dX1_nextStop_16 : decode cX1_nextStop 16 = .ok (.iconst (-1), 1) := by decide +kernel
theorem dX1_nextStop_17 : decode cX1_nextStop 17 = .ok (.if_icmp .eq 19, 3) := by decide +kernel
theorem dX1_nextStop_20 : decode cX1_nextStop 20 = .ok (.aload_n 0, 1) := by decide +kernel
theorem dX1_nextStop_21 : decode cX1_nextStop 21 = .ok (.getfield 15, 3) := by decide +kernel
theorem dX1_nextStop_24 : decode cX1_nextStop 24 = .ok (.aload_n 1, 1) := by decide +kernel
theorem dX1_nextStop_25 : decode cX1_nextStop 25 = .ok (.getfield 67, 3) := by decide +kernel
theorem dX1_nextStop_28 : decode cX1_nextStop 28 = .ok (.if_icmp .eq 8, 3) := by decide +kernel
theorem dX1_nextStop_31 : decode cX1_nextStop 31 = .ok (.aload_n 0, 1) := by decide +kernel
theorem dX1_nextStop_32 : decode cX1_nextStop 32 = .ok (.getfield 15, 3) := by decide +kernel
theorem dX1_nextStop_35 : decode cX1_nextStop 35 = .ok (.ireturn, 1) := by decide +kernel
theorem dX1_nextStop_36 : decode cX1_nextStop 36 = .ok (.aload_n 0, 1) := by decide +kernel
theorem dX1_nextStop_37 : decode cX1_nextStop 37 = .ok (.aload_n 1, 1) := by decide +kernel
theorem dX1_nextStop_38 : decode cX1_nextStop 38 = .ok (.iload_n 2, 1) := by decide +kernel
theorem dX1_nextStop_39 : decode cX1_nextStop 39 = .ok (.invokevirtual 86, 3) := by decide +kernel
theorem dX1_nextStop_42 : decode cX1_nextStop 42 = .ok (.iconst (-1), 1) := by decide +kernel
theorem dX1_nextStop_43 : decode cX1_nextStop 43 = .ok (.istore_n 3, 1) := by decide +kernel
theorem dX1_nextStop_44 : decode cX1_nextStop 44 = .ok (.iconst 0, 1) := by decide +kernel
theorem dX1_nextStop_45 : decode cX1_nextStop 45 = .ok (.istore 4, 2) := by decide +kernel
theorem dX1_nextStop_47 : decode cX1_nextStop 47 = .ok (.iconst 0, 1) := by decide +kernel
theorem dX1_nextStop_48 : decode cX1_nextStop 48 = .ok (.istore 5, 2) := by decide +kernel
theorem dX1_nextStop_50 : decode cX1_nextStop 50 = .ok (.iload 5, 2) := by decide +kernel
theorem dX1_nextStop_52 : decode cX1_nextStop 52 = .ok (.aload_n 0, 1) := by decide +kernel
theorem dX1_nextStop_53 : decode cX1_nextStop 53 = .ok (.getfield 9, 3) := by decide +kernel
theorem dX1_nextStop_56 : decode cX1_nextStop 56 = .ok (.if_icmp .ge 93, 3) := by decide +kernel
theorem dX1_nextStop_59 : decode cX1_nextStop 59 = .ok (.iload 5, 2) := by decide +kernel
theorem dX1_nextStop_61 : decode cX1_nextStop 61 = .ok (.aload_n 1, 1) := by decide +kernel
theorem dX1_nextStop_62 : decode cX1_nextStop 62 = .ok (.getfield 67, 3) := by decide +kernel
theorem dX1_nextStop_65 : decode cX1_nextStop 65 = .ok (.if_icmp .eq 78, 3) := by decide +kernel
theorem dX1_nextStop_68 : decode cX1_nextStop 68 = .ok (.aload_n 0, 1) := by decide +kernel
theorem dX1_nextStop_69 : decode cX1_nextStop 69 = .ok (.getfield 31, 3) := by decide +kernel
theorem dX1_nextStop_72 : decode cX1_nextStop 72 = .ok (.aload_n 0, 1) := by decide +kernel
theorem dX1_nextStop_73 : decode cX1_nextStop 73 = .ok (.getfield 38, 3) := by decide +kernel
theorem dX1_nextStop_76 : decode cX1_nextStop 76 = .ok (.iload 5, 2) := by decide +kernel
theorem dX1_nextStop_78 : decode cX1_nextStop 78 = .ok (.invokevirtual 90, 3) := by decide +kernel
theorem dX1_nextStop_81 : decode cX1_nextStop 81 = .ok (.istore 6, 2) := by decide +kernel
theorem dX1_nextStop_83 : decode cX1_nextStop 83 = .ok (.iload_n 3, 1) := by decide +kernel
theorem dX1_nextStop_84 : decode cX1_nextStop 84 = .ok (.iconst (-1), 1) := by decide +kernel
theorem dX1_nextStop_85 : decode cX1_nextStop 85 = .ok (.if_icmp .eq 39, 3) := by decide +kernel
theorem dX1_nextStop_88 : decode cX1_nextStop 88 = .ok (.iload 6, 2) := by decide +kernel
theorem dX1_nextStop_90 : decode cX1_nextStop 90 = .ok (.iload 4, 2) := by decide +kernel
theorem dX1_nextStop_92 : decode cX1_nextStop 92 = .ok (.if_icmp .lt 32, 3) := by decide +kernel
theorem dX1_nextStop_95 : decode cX1_nextStop 95 = .ok (.iload 6, 2) := by decide +kernel
theorem dX1_nextStop_97 : decode cX1_nextStop 97 = .ok (.iload 4, 2) := by decide +kernel
theorem dX1_nextStop_99 : decode cX1_nextStop 99 = .ok (.if_icmp .ne 29, 3) := by decide +kernel
theorem dX1_nextStop_102 : decode cX1_nextStop 102 = .ok (.iload 5, 2) := by decide +kernel
theorem dX1_nextStop_104 : decode cX1_nextStop 104 = .ok (.aload_n 1, 1) := by decide +kernel
theorem dX1_nextStop_105 : decode cX1_nextStop 105 = .ok (.getfield 67, 3) := by decide +kernel
theorem dX1_nextStop_108 : decode cX1_nextStop 108 = .ok (.isub, 1) := by decide +kernel
theorem dX1_nextStop_109 : decode cX1_nextStop 109 = .ok (.invokestatic 94, 3) := by decide +kernel
theorem dX1_nextStop_112 : decode cX1_nextStop 112 = .ok (.iload_n 3, 1) := by decide +kernel
theorem dX1_nextStop_113 : decode cX1_nextStop 113 = .ok (.aload_n 1, 1) := by decide +kernel
theorem dX1_nextStop_114 : decode cX1_nextStop 114 = .ok (.getfield 67, 3) := by decide +kernel
theorem dX1_nextStop_117 : decode cX1_nextStop 117 = .ok (.isub, 1) := by decide +kernel
theorem dX1_nextStop_118 : decode cX1_nextStop 118 = .ok (.invokestatic 94, 3) := by decide +kernel
theorem dX1_nextStop_121 : decode cX1_nextStop 121 = .ok (.if_icmp .ge 7, 3) := by decide +kernel
theorem dX1_nextStop_124 : decode cX1_nextStop 124 = .ok (.iconst 1, 1) := by decide +kernel
theorem dX1_nextStop_125 : decode cX1_nextStop 125 = .ok (.goto 4, 3) := by decide +kernel
theorem dX1_nextStop_128 : decode cX1_nextStop 128 = .ok (.iconst 0, 1) := by decide +kernel
theorem dX1_nextStop_129 : decode cX1_nextStop 129 = .ok (.istore 7, 2) := by decide +kernel
theorem dX1_nextStop_131 : decode cX1_nextStop 131 = .ok (.iload 7, 2) := by decide +kernel
theorem dX1_nextStop_133 : decode cX1_nextStop 133 = .ok (.ifCond .eq 10, 3) := by decide +kernel
theorem dX1_nextStop_136 : decode cX1_nextStop 136 = .ok (.iload 5, 2) := by decide +kernel
theorem dX1_nextStop_138 : decode cX1_nextStop 138 = .ok (.istore_n 3, 1) := by decide +kernel
theorem dX1_nextStop_139 : decode cX1_nextStop 139 = .ok (.iload 6, 2) := by decide +kernel
theorem dX1_nextStop_141 : decode cX1_nextStop 141 = .ok (.istore 4, 2) := by decide +kernel
theorem dX1_nextStop_143 : decode cX1_nextStop 143 = .ok (.iinc 5 1, 3) := by decide +kernel
theorem dX1_nextStop_146 : decode cX1_nextStop 146 = .ok (.goto (-96), 3) := by decide +kernel
theorem dX1_nextStop_149 : decode cX1_nextStop 149 = .ok (.iload_n 3, 1) := by decide +kernel
theorem dX1_nextStop_150 : decode cX1_nextStop 150 = .ok (.ireturn, 1) := by decide +kernel
theorem dX1_homeAt_0 : decode cX1_homeAt 0 = .ok (.iconst 0, 1) := by decide +kernel
theorem dX1_homeAt_1 : decode cX1_homeAt 1 = .ok (.istore_n 3, 1) := by decide +kernel
theorem dX1_homeAt_2 : decode cX1_homeAt 2 = .ok (.iconst 0, 1) := by decide +kernel
theorem dX1_homeAt_3 : decode cX1_homeAt 3 = .ok (.istore 4, 2) := by decide +kernel
theorem dX1_homeAt_5 : decode cX1_homeAt 5 = .ok (.iload 4, 2) := by decide +kernel
theorem dX1_homeAt_7 : decode cX1_homeAt 7 = .ok (.aload_n 0, 1) := by decide +kernel
theorem dX1_homeAt_8 : decode cX1_homeAt 8 = .ok (.getfield 18, 3) := by decide +kernel
theorem dX1_homeAt_11 : decode cX1_homeAt 11 = .ok (.if_icmp .ge 36, 3) := by decide +kernel
theorem dX1_homeAt_14 : decode cX1_homeAt 14 = .ok (.iload_n 1, 1) := by decide +kernel
theorem dX1_homeAt_15 : decode cX1_homeAt 15 = .ok (.iload 4, 2) := by decide +kernel
theorem dX1_homeAt_17 : decode cX1_homeAt 17 = .ok (.ishr, 1) := by decide +kernel
theorem dX1_homeAt_18 : decode cX1_homeAt 18 = .ok (.iconst 1, 1) := by decide +kernel
theorem dX1_homeAt_19 : decode cX1_homeAt 19 = .ok (.iand, 1) := by decide +kernel
theorem dX1_homeAt_20 : decode cX1_homeAt 20 = .ok (.ifCond .eq 21, 3) := by decide +kernel
theorem dX1_homeAt_23 : decode cX1_homeAt 23 = .ok (.aload_n 0, 1) := by decide +kernel
theorem dX1_homeAt_24 : decode cX1_homeAt 24 = .ok (.getfield 21, 3) := by decide +kernel
theorem dX1_homeAt_27 : decode cX1_homeAt 27 = .ok (.iload 4, 2) := by decide +kernel
theorem dX1_homeAt_29 : decode cX1_homeAt 29 = .ok (.iaload, 1) := by decide +kernel
theorem dX1_homeAt_30 : decode cX1_homeAt 30 = .ok (.iload_n 2, 1) := by decide +kernel
theorem dX1_homeAt_31 : decode cX1_homeAt 31 = .ok (.if_icmp .ne 10, 3) := by decide +kernel
theorem dX1_homeAt_34 : decode cX1_homeAt 34 = .ok (.iload_n 3, 1) := by decide +kernel
theorem dX1_homeAt_35 : decode cX1_homeAt 35 = .ok (.iconst 1, 1) := by decide +kernel
theorem dX1_homeAt_36 : decode cX1_homeAt 36 = .ok (.iload 4, 2) := by decide +kernel
theorem dX1_homeAt_38 : decode cX1_homeAt 38 = .ok (.ishl, 1) := by decide +kernel
theorem dX1_homeAt_39 : decode cX1_homeAt 39 = .ok (.ior, 1) := by decide +kernel
theorem dX1_homeAt_40 : decode cX1_homeAt 40 = .ok (.istore_n 3, 1) := by decide +kernel
theorem dX1_homeAt_41 : decode cX1_homeAt 41 = .ok (.iinc 4 1, 3) := by decide +kernel
theorem dX1_homeAt_44 : decode cX1_homeAt 44 = .ok (.goto (-39), 3) := by decide +kernel
theorem dX1_homeAt_47 : decode cX1_homeAt 47 = .ok (.iload_n 3, 1) := by decide +kernel
theorem dX1_homeAt_48 : decode cX1_homeAt 48 = .ok (.ireturn, 1) := by decide +kernel
theorem dX1_carry_0 : decode cX1_carry 0 = .ok (.aload_n 0, 1) := by decide +kernel
theorem dX1_carry_1 : decode cX1_carry 1 = .ok (.aload_n 1, 1) := by decide +kernel
theorem dX1_carry_2 : decode cX1_carry 2 = .ok (.aload_n 1, 1) := by decide +kernel
theorem dX1_carry_3 : decode cX1_carry 3 = .ok (.getfield 99, 3) := by decide +kernel
theorem dX1_carry_6 : decode cX1_carry 6 = .ok (.invokevirtual 102, 3) := by decide +kernel
theorem dX1_carry_9 : decode cX1_carry 9 = .ok (.istore_n 2, 1) := by decide +kernel
theorem dX1_carry_10 : decode cX1_carry 10 = .ok (.aload_n 0, 1) := by decide +kernel
theorem dX1_carry_11 : decode cX1_carry 11 = .ok (.aload_n 1, 1) := by decide +kernel
theorem dX1_carry_12 : decode cX1_carry 12 = .ok (.getfield 99, 3) := by decide +kernel
theorem dX1_carry_15 : decode cX1_carry 15 = .ok (.iload_n 2, 1) := by decide +kernel
theorem dX1_carry_16 : decode cX1_carry 16 = .ok (.invokevirtual 106, 3) := by decide +kernel
theorem dX1_carry_19 : decode cX1_carry 19 = .ok (.istore_n 3, 1) := by decide +kernel
theorem dX1_carry_20 : decode cX1_carry 20 = .ok (.iconst 0, 1) := by decide +kernel
theorem dX1_carry_21 : decode cX1_carry 21 = .ok (.istore 4, 2) := by decide +kernel
theorem dX1_carry_23 : decode cX1_carry 23 = .ok (.iload 4, 2) := by decide +kernel
theorem dX1_carry_25 : decode cX1_carry 25 = .ok (.aload_n 0, 1) := by decide +kernel
theorem dX1_carry_26 : decode cX1_carry 26 = .ok (.getfield 18, 3) := by decide +kernel
theorem dX1_carry_29 : decode cX1_carry 29 = .ok (.if_icmp .ge 50, 3) := by decide +kernel
theorem dX1_carry_32 : decode cX1_carry 32 = .ok (.aload_n 1, 1) := by decide +kernel
theorem dX1_carry_33 : decode cX1_carry 33 = .ok (.iload 4, 2) := by decide +kernel
theorem dX1_carry_35 : decode cX1_carry 35 = .ok (.invokevirtual 110, 3) := by decide +kernel
theorem dX1_carry_38 : decode cX1_carry 38 = .ok (.ifCond .eq 35, 3) := by decide +kernel
theorem dX1_carry_41 : decode cX1_carry 41 = .ok (.aload_n 1, 1) := by decide +kernel
theorem dX1_carry_42 : decode cX1_carry 42 = .ok (.getfield 113, 3) := by decide +kernel
theorem dX1_carry_45 : decode cX1_carry 45 = .ok (.iload 4, 2) := by decide +kernel
theorem dX1_carry_47 : decode cX1_carry 47 = .ok (.dup2, 1) := by decide +kernel
theorem dX1_carry_48 : decode cX1_carry 48 = .ok (.iaload, 1) := by decide +kernel
theorem dX1_carry_49 : decode cX1_carry 49 = .ok (.iconst 1, 1) := by decide +kernel
theorem dX1_carry_50 : decode cX1_carry 50 = .ok (.iadd, 1) := by decide +kernel
theorem dX1_carry_51 : decode cX1_carry 51 = .ok (.iastore, 1) := by decide +kernel
theorem dX1_carry_52 : decode cX1_carry 52 = .ok (.aload_n 1, 1) := by decide +kernel
theorem dX1_carry_53 : decode cX1_carry 53 = .ok (.getfield 77, 3) := by decide +kernel
theorem dX1_carry_56 : decode cX1_carry 56 = .ok (.iload 4, 2) := by decide +kernel
theorem dX1_carry_58 : decode cX1_carry 58 = .ok (.iload_n 3, 1) := by decide +kernel
theorem dX1_carry_59 : decode cX1_carry 59 = .ok (.iload 4, 2) := by decide +kernel
theorem dX1_carry_61 : decode cX1_carry 61 = .ok (.ishr, 1) := by decide +kernel
theorem dX1_carry_62 : decode cX1_carry 62 = .ok (.iconst 1, 1) := by decide +kernel
theorem dX1_carry_63 : decode cX1_carry 63 = .ok (.iand, 1) := by decide +kernel
theorem dX1_carry_64 : decode cX1_carry 64 = .ok (.ifCond .eq 7, 3) := by decide +kernel
theorem dX1_carry_67 : decode cX1_carry 67 = .ok (.iconst (-1), 1) := by decide +kernel
theorem dX1_carry_68 : decode cX1_carry 68 = .ok (.goto 4, 3) := by decide +kernel
theorem dX1_carry_71 : decode cX1_carry 71 = .ok (.iload_n 2, 1) := by decide +kernel
theorem dX1_carry_72 : decode cX1_carry 72 = .ok (.iastore, 1) := by decide +kernel
theorem dX1_carry_73 : decode cX1_carry 73 = .ok (.iinc 4 1, 3) := by decide +kernel
theorem dX1_carry_76 : decode cX1_carry 76 = .ok (.goto (-53), 3) := by decide +kernel
theorem dX1_carry_79 : decode cX1_carry 79 = .ok (.aload_n 1, 1) := by decide +kernel
theorem dX1_carry_80 : decode cX1_carry 80 = .ok (.dup, 1) := by decide +kernel
theorem dX1_carry_81 : decode cX1_carry 81 = .ok (.getfield 99, 3) := by decide +kernel
theorem dX1_carry_84 : decode cX1_carry 84 = .ok (.iload_n 3, 1) := by decide +kernel
theorem dX1_carry_85 : decode cX1_carry 85 = .ok (.iconst (-1), 1) := by decide +kernel
theorem dX1_carry_86 : decode cX1_carry 86 = .ok (.ixor, 1) := by decide +kernel
theorem dX1_carry_87 : decode cX1_carry 87 = .ok (.iand, 1) := by decide +kernel
theorem dX1_carry_88 : decode cX1_carry 88 = .ok (.putfield 99, 3) := by decide +kernel
theorem dX1_carry_91 : decode cX1_carry 91 = .ok (.aload_n 1, 1) := by decide +kernel
theorem dX1_carry_92 : decode cX1_carry 92 = .ok (.iload_n 2, 1) := by decide +kernel
theorem dX1_carry_93 : decode cX1_carry 93 = .ok (.putfield 67, 3) := by decide +kernel
theorem dX1_carry_96 : decode cX1_carry 96 = .ok (.aload_n 1, 1) := by decide +kernel
theorem dX1_carry_97 : decode cX1_carry 97 = .ok (.dup, 1) := by decide +kernel
theorem dX1_carry_98 : decode cX1_carry 98 = .ok (.getfield 73, 3) := by decide +kernel
theorem dX1_carry_101 : decode cX1_carry 101 = .ok (.iconst 1, 1) := by decide +kernel
theorem dX1_carry_102 : decode cX1_carry 102 = .ok (.iadd, 1) := by decide +kernel
theorem dX1_carry_103 : decode cX1_carry 103 = .ok (.putfield 73, 3) := by decide +kernel
theorem dX1_carry_106 : decode cX1_carry 106 = .ok (.iload_n 3, 1) := by decide +kernel
theorem dX1_carry_107 : decode cX1_carry 107 = .ok (.ireturn, 1) := by decide +kernel
theorem dX1_flawOfLines_0 : decode cX1_flawOfLines 0 = .ok (.aload_n 1, 1) := by decide +kernel
theorem dX1_flawOfLines_1 : decode cX1_flawOfLines 1 = .ok (.getfield 116, 3) := by decide +kernel
theorem dX1_flawOfLines_4 : decode cX1_flawOfLines 4 = .ok (.ifCond .ne 5, 3) := by decide +kernel
theorem dX1_flawOfLines_7 : decode cX1_flawOfLines 7 = .ok (.iconst (-1), 1) := by decide +kernel
theorem dX1_flawOfLines_8 : decode cX1_flawOfLines 8 = .ok (.ireturn, 1) := by decide +kernel
theorem dX1_flawOfLines_9 : decode cX1_flawOfLines 9 = .ok (.aload_n 1, 1) := by decide +kernel
theorem dX1_flawOfLines_10 : decode cX1_flawOfLines 10 = .ok (.getfield 116, 3) := by decide +kernel
theorem dX1_flawOfLines_13 : decode cX1_flawOfLines 13 = .ok (.bipush 76, 2) := by decide +kernel
theorem dX1_flawOfLines_15 : decode cX1_flawOfLines 15 = .ok (.invokestatic 121, 3) := by decide +kernel
theorem dX1_flawOfLines_18 : decode cX1_flawOfLines 18 = .ok (.istore_n 3, 1) := by decide +kernel
theorem dX1_flawOfLines_19 : decode cX1_flawOfLines 19 = .ok (.iconst 0, 1) := by decide +kernel
theorem dX1_flawOfLines_20 : decode cX1_flawOfLines 20 = .ok (.istore 4, 2) := by decide +kernel
theorem dX1_flawOfLines_22 : decode cX1_flawOfLines 22 = .ok (.iconst 0, 1) := by decide +kernel
theorem dX1_flawOfLines_23 : decode cX1_flawOfLines 23 = .ok (.istore 5, 2) := by decide +kernel
theorem dX1_flawOfLines_25 : decode cX1_flawOfLines 25 = .ok (.iconst 0, 1) := by decide +kernel
theorem dX1_flawOfLines_26 : decode cX1_flawOfLines 26 = .ok (.istore 6, 2) := by decide +kernel
theorem dX1_flawOfLines_28 : decode cX1_flawOfLines 28 = .ok (.iload 6, 2) := by decide +kernel
theorem dX1_flawOfLines_30 : decode cX1_flawOfLines 30 = .ok (.iload_n 3, 1) := by decide +kernel
theorem dX1_flawOfLines_31 : decode cX1_flawOfLines 31 = .ok (.if_icmp .ge 82, 3) := by decide +kernel
theorem dX1_flawOfLines_34 : decode cX1_flawOfLines 34 = .ok (.aload_n 1, 1) := by decide +kernel
theorem dX1_flawOfLines_35 : decode cX1_flawOfLines 35 = .ok (.iload 6, 2) := by decide +kernel
theorem dX1_flawOfLines_37 : decode cX1_flawOfLines 37 = .ok (.invokevirtual 124, 3) := by decide +kernel
theorem dX1_flawOfLines_40 : decode cX1_flawOfLines 40 = .ok (.istore 7, 2) := by decide +kernel
theorem dX1_flawOfLines_42 : decode cX1_flawOfLines 42 = .ok (.iload 4, 2) := by decide +kernel
theorem dX1_flawOfLines_44 : decode cX1_flawOfLines 44 = .ok (.ifCond .ne 21, 3) := by decide +kernel
theorem dX1_flawOfLines_47 : decode cX1_flawOfLines 47 = .ok (.iinc 5 1, 3) := by decide +kernel
theorem dX1_flawOfLines_50 : decode cX1_flawOfLines 50 = .ok (.aload_n 0, 1) := by decide +kernel
theorem dX1_flawOfLines_51 : decode cX1_flawOfLines 51 = .ok (.getfield 18, 3) := by decide +kernel
theorem dX1_flawOfLines_54 : decode cX1_flawOfLines 54 = .ok (.iload 5, 2) := by decide +kernel
theorem dX1_flawOfLines_56 : decode cX1_flawOfLines 56 = .ok (.iadd, 1) := by decide +kernel
theorem dX1_flawOfLines_57 : decode cX1_flawOfLines 57 = .ok (.bipush 10, 2) := by decide +kernel
theorem dX1_flawOfLines_59 : decode cX1_flawOfLines 59 = .ok (.if_icmp .le 6, 3) := by decide +kernel
theorem dX1_flawOfLines_62 : decode cX1_flawOfLines 62 = .ok (.iload 6, 2) := by decide +kernel
theorem dX1_flawOfLines_64 : decode cX1_flawOfLines 64 = .ok (.ireturn, 1) := by decide +kernel
theorem dX1_flawOfLines_65 : decode cX1_flawOfLines 65 = .ok (.aload_n 1, 1) := by decide +kernel
theorem dX1_flawOfLines_66 : decode cX1_flawOfLines 66 = .ok (.iload 6, 2) := by decide +kernel
theorem dX1_flawOfLines_68 : decode cX1_flawOfLines 68 = .ok (.iconst 1, 1) := by decide +kernel
theorem dX1_flawOfLines_69 : decode cX1_flawOfLines 69 = .ok (.isub, 1) := by decide +kernel
theorem dX1_flawOfLines_70 : decode cX1_flawOfLines 70 = .ok (.invokevirtual 124, 3) := by decide +kernel
theorem dX1_flawOfLines_73 : decode cX1_flawOfLines 73 = .ok (.bipush 48, 2) := by decide +kernel
theorem dX1_flawOfLines_75 : decode cX1_flawOfLines 75 = .ok (.isub, 1) := by decide +kernel
theorem dX1_flawOfLines_76 : decode cX1_flawOfLines 76 = .ok (.iload_n 2, 1) := by decide +kernel
theorem dX1_flawOfLines_77 : decode cX1_flawOfLines 77 = .ok (.if_icmp .ne 7, 3) := by decide +kernel
theorem dX1_flawOfLines_80 : decode cX1_flawOfLines 80 = .ok (.iconst 1, 1) := by decide +kernel
theorem dX1_flawOfLines_81 : decode cX1_flawOfLines 81 = .ok (.goto 4, 3) := by decide +kernel
theorem dX1_flawOfLines_84 : decode cX1_flawOfLines 84 = .ok (.iconst 0, 1) := by decide +kernel
theorem dX1_flawOfLines_85 : decode cX1_flawOfLines 85 = .ok (.istore 8, 2) := by decide +kernel
theorem dX1_flawOfLines_87 : decode cX1_flawOfLines 87 = .ok (.aload_n 0, 1) := by decide +kernel
theorem dX1_flawOfLines_88 : decode cX1_flawOfLines 88 = .ok (.iload 4, 2) := by decide +kernel
theorem dX1_flawOfLines_90 : decode cX1_flawOfLines 90 = .ok (.iload 7, 2) := by decide +kernel
theorem dX1_flawOfLines_92 : decode cX1_flawOfLines 92 = .ok (.iload 8, 2) := by decide +kernel
theorem dX1_flawOfLines_94 : decode cX1_flawOfLines 94 = .ok (.invokevirtual 126, 3) := by decide +kernel
theorem dX1_flawOfLines_97 : decode cX1_flawOfLines 97 = .ok (.istore 4, 2) := by decide +kernel
theorem dX1_flawOfLines_99 : decode cX1_flawOfLines 99 = .ok (.iload 4, 2) := by decide +kernel
theorem dX1_flawOfLines_101 : decode cX1_flawOfLines 101 = .ok (.ifCond .ge 6, 3) := by decide +kernel
theorem dX1_flawOfLines_104 : decode cX1_flawOfLines 104 = .ok (.iload 6, 2) := by decide +kernel
theorem dX1_flawOfLines_106 : decode cX1_flawOfLines 106 = .ok (.ireturn, 1) := by decide +kernel
theorem dX1_flawOfLines_107 : decode cX1_flawOfLines 107 = .ok (.iinc 6 1, 3) := by decide +kernel
theorem dX1_flawOfLines_110 : decode cX1_flawOfLines 110 = .ok (.goto (-82), 3) := by decide +kernel
theorem dX1_flawOfLines_113 : decode cX1_flawOfLines 113 = .ok (.aload_n 1, 1) := by decide +kernel
theorem dX1_flawOfLines_114 : decode cX1_flawOfLines 114 = .ok (.bipush 76, 2) := by decide +kernel
theorem dX1_flawOfLines_116 : decode cX1_flawOfLines 116 = .ok (.iload 4, 2) := by decide +kernel
theorem dX1_flawOfLines_118 : decode cX1_flawOfLines 118 = .ok (.iconst 5, 1) := by decide +kernel
theorem dX1_flawOfLines_119 : decode cX1_flawOfLines 119 = .ok (.if_icmp .lt 7, 3) := by decide +kernel
theorem dX1_flawOfLines_122 : decode cX1_flawOfLines 122 = .ok (.iconst 1, 1) := by decide +kernel
theorem dX1_flawOfLines_123 : decode cX1_flawOfLines 123 = .ok (.goto 4, 3) := by decide +kernel
theorem dX1_flawOfLines_126 : decode cX1_flawOfLines 126 = .ok (.iconst 0, 1) := by decide +kernel
theorem dX1_flawOfLines_127 : decode cX1_flawOfLines 127 = .ok (.invokevirtual 130, 3) := by decide +kernel
theorem dX1_flawOfLines_130 : decode cX1_flawOfLines 130 = .ok (.ireturn, 1) := by decide +kernel
theorem dX1_nextPlace_0 : decode cX1_nextPlace 0 = .ok (.iload_n 1, 1) := by decide +kernel
theorem dX1_nextPlace_1 : decode cX1_nextPlace 1 = .ok (.tableswitch 145 0 5 #[39, 56, 68, 91, 103, 120], 39) := by decide +kernel
theorem dX1_nextPlace_40 : decode cX1_nextPlace 40 = .ok (.aload_n 0, 1) := by decide +kernel
theorem dX1_nextPlace_41 : decode cX1_nextPlace 41 = .ok (.iload_n 2, 1) := by decide +kernel
theorem dX1_nextPlace_42 : decode cX1_nextPlace 42 = .ok (.bipush 48, 2) := by decide +kernel
theorem dX1_nextPlace_44 : decode cX1_nextPlace 44 = .ok (.isub, 1) := by decide +kernel
theorem dX1_nextPlace_45 : decode cX1_nextPlace 45 = .ok (.invokevirtual 42, 3) := by decide +kernel
theorem dX1_nextPlace_48 : decode cX1_nextPlace 48 = .ok (.ifCond .eq 7, 3) := by decide +kernel
theorem dX1_nextPlace_51 : decode cX1_nextPlace 51 = .ok (.iconst 1, 1) := by decide +kernel
theorem dX1_nextPlace_52 : decode cX1_nextPlace 52 = .ok (.goto 4, 3) := by decide +kernel
theorem dX1_nextPlace_55 : decode cX1_nextPlace 55 = .ok (.iconst (-1), 1) := by decide +kernel
theorem dX1_nextPlace_56 : decode cX1_nextPlace 56 = .ok (.ireturn, 1) := by decide +kernel
theorem dX1_nextPlace_57 : decode cX1_nextPlace 57 = .ok (.iload_n 2, 1) := by decide +kernel
theorem dX1_nextPlace_58 : decode cX1_nextPlace 58 = .ok (.bipush 62, 2) := by decide +kernel
theorem dX1_nextPlace_60 : decode cX1_nextPlace 60 = .ok (.if_icmp .ne 7, 3) := by decide +kernel
theorem dX1_nextPlace_63 : decode cX1_nextPlace 63 = .ok (.iconst 2, 1) := by decide +kernel
theorem dX1_nextPlace_64 : decode cX1_nextPlace 64 = .ok (.goto 4, 3) := by decide +kernel
theorem dX1_nextPlace_67 : decode cX1_nextPlace 67 = .ok (.iconst (-1), 1) := by decide +kernel
theorem dX1_nextPlace_68 : decode cX1_nextPlace 68 = .ok (.ireturn, 1) := by decide +kernel
theorem dX1_nextPlace_69 : decode cX1_nextPlace 69 = .ok (.iload_n 2, 1) := by decide +kernel
theorem dX1_nextPlace_70 : decode cX1_nextPlace 70 = .ok (.bipush 45, 2) := by decide +kernel
theorem dX1_nextPlace_72 : decode cX1_nextPlace 72 = .ok (.if_icmp .eq 14, 3) := by decide +kernel
theorem dX1_nextPlace_75 : decode cX1_nextPlace 75 = .ok (.aload_n 0, 1) := by decide +kernel
theorem dX1_nextPlace_76 : decode cX1_nextPlace 76 = .ok (.iload_n 2, 1) := by decide +kernel
theorem dX1_nextPlace_77 : decode cX1_nextPlace 77 = .ok (.bipush 48, 2) := by decide +kernel
theorem dX1_nextPlace_79 : decode cX1_nextPlace 79 = .ok (.isub, 1) := by decide +kernel
theorem dX1_nextPlace_80 : decode cX1_nextPlace 80 = .ok (.invokevirtual 42, 3) := by decide +kernel
theorem dX1_nextPlace_83 : decode cX1_nextPlace 83 = .ok (.ifCond .eq 7, 3) := by decide +kernel
theorem dX1_nextPlace_86 : decode cX1_nextPlace 86 = .ok (.iconst 3, 1) := by decide +kernel
theorem dX1_nextPlace_87 : decode cX1_nextPlace 87 = .ok (.goto 4, 3) := by decide +kernel
theorem dX1_nextPlace_90 : decode cX1_nextPlace 90 = .ok (.iconst (-1), 1) := by decide +kernel
theorem dX1_nextPlace_91 : decode cX1_nextPlace 91 = .ok (.ireturn, 1) := by decide +kernel
theorem dX1_nextPlace_92 : decode cX1_nextPlace 92 = .ok (.iload_n 2, 1) := by decide +kernel
theorem dX1_nextPlace_93 : decode cX1_nextPlace 93 = .ok (.bipush 64, 2) := by decide +kernel
theorem dX1_nextPlace_95 : decode cX1_nextPlace 95 = .ok (.if_icmp .ne 7, 3) := by decide +kernel
theorem dX1_nextPlace_98 : decode cX1_nextPlace 98 = .ok (.iconst 4, 1) := by decide +kernel
theorem dX1_nextPlace_99 : decode cX1_nextPlace 99 = .ok (.goto 4, 3) := by decide +kernel
theorem dX1_nextPlace_102 : decode cX1_nextPlace 102 = .ok (.iconst (-1), 1) := by decide +kernel
theorem dX1_nextPlace_103 : decode cX1_nextPlace 103 = .ok (.ireturn, 1) := by decide +kernel
theorem dX1_nextPlace_104 : decode cX1_nextPlace 104 = .ok (.aload_n 0, 1) := by decide +kernel
theorem dX1_nextPlace_105 : decode cX1_nextPlace 105 = .ok (.iload_n 2, 1) := by decide +kernel
theorem dX1_nextPlace_106 : decode cX1_nextPlace 106 = .ok (.bipush 48, 2) := by decide +kernel
theorem dX1_nextPlace_108 : decode cX1_nextPlace 108 = .ok (.isub, 1) := by decide +kernel
theorem dX1_nextPlace_109 : decode cX1_nextPlace 109 = .ok (.invokevirtual 42, 3) := by decide +kernel
theorem dX1_nextPlace_112 : decode cX1_nextPlace 112 = .ok (.ifCond .eq 7, 3) := by decide +kernel
theorem dX1_nextPlace_115 : decode cX1_nextPlace 115 = .ok (.iconst 5, 1) := by decide +kernel
theorem dX1_nextPlace_116 : decode cX1_nextPlace 116 = .ok (.goto 4, 3) := by decide +kernel
theorem dX1_nextPlace_119 : decode cX1_nextPlace 119 = .ok (.iconst (-1), 1) := by decide +kernel
theorem dX1_nextPlace_120 : decode cX1_nextPlace 120 = .ok (.ireturn, 1) := by decide +kernel
theorem dX1_nextPlace_121 : decode cX1_nextPlace 121 = .ok (.iload_n 2, 1) := by decide +kernel
theorem dX1_nextPlace_122 : decode cX1_nextPlace 122 = .ok (.bipush 33, 2) := by decide +kernel
theorem dX1_nextPlace_124 : decode cX1_nextPlace 124 = .ok (.if_icmp .ne 10, 3) := by decide +kernel
theorem dX1_nextPlace_127 : decode cX1_nextPlace 127 = .ok (.iload_n 3, 1) := by decide +kernel
theorem dX1_nextPlace_128 : decode cX1_nextPlace 128 = .ok (.ifCond .eq 6, 3) := by decide +kernel
theorem dX1_nextPlace_131 : decode cX1_nextPlace 131 = .ok (.bipush 6, 2) := by decide +kernel
theorem dX1_nextPlace_133 : decode cX1_nextPlace 133 = .ok (.ireturn, 1) := by decide +kernel
theorem dX1_nextPlace_134 : decode cX1_nextPlace 134 = .ok (.iload_n 2, 1) := by decide +kernel
theorem dX1_nextPlace_135 : decode cX1_nextPlace 135 = .ok (.bipush 59, 2) := by decide +kernel
theorem dX1_nextPlace_137 : decode cX1_nextPlace 137 = .ok (.if_icmp .ne 7, 3) := by decide +kernel
theorem dX1_nextPlace_140 : decode cX1_nextPlace 140 = .ok (.iconst 0, 1) := by decide +kernel
theorem dX1_nextPlace_141 : decode cX1_nextPlace 141 = .ok (.goto 4, 3) := by decide +kernel
theorem dX1_nextPlace_144 : decode cX1_nextPlace 144 = .ok (.iconst (-1), 1) := by decide +kernel
theorem dX1_nextPlace_145 : decode cX1_nextPlace 145 = .ok (.ireturn, 1) := by decide +kernel
theorem dX1_nextPlace_146 : decode cX1_nextPlace 146 = .ok (.iload_n 2, 1) := by decide +kernel
theorem dX1_nextPlace_147 : decode cX1_nextPlace 147 = .ok (.bipush 59, 2) := by decide +kernel
theorem dX1_nextPlace_149 : decode cX1_nextPlace 149 = .ok (.if_icmp .ne 7, 3) := by decide +kernel
theorem dX1_nextPlace_152 : decode cX1_nextPlace 152 = .ok (.iconst 0, 1) := by decide +kernel
theorem dX1_nextPlace_153 : decode cX1_nextPlace 153 = .ok (.goto 4, 3) := by decide +kernel
theorem dX1_nextPlace_156 : decode cX1_nextPlace 156 = .ok (.iconst (-1), 1) := by decide +kernel
theorem dX1_nextPlace_157 : decode cX1_nextPlace 157 = .ok (.ireturn, 1) := by decide +kernel
