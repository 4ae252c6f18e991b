theorem dX6_init_0 : decode cX6_init 0 = .ok (.aload_n 0, 1) := by decide +kernel
theorem dX6_init_1 : decode cX6_init 1 = .ok (.invokespecial 3, 3) := by decide +kernel
theorem dX6_init_4 : decode cX6_init 4 = .ok (.aload_n 0, 1) := by decide +kernel
theorem dX6_init_5 : decode cX6_init 5 = .ok (.new 9, 3) := by decide +kernel
theorem dX6_init_8 : decode cX6_init 8 = .ok (.dup, 1) := by decide +kernel
theorem dX6_init_9 : decode cX6_init 9 = .ok (.invokespecial 11, 3) := by decide +kernel
theorem dX6_init_12 : decode cX6_init 12 = .ok (.putfield 12, 3) := by decide +kernel
theorem dX6_init_15 : decode cX6_init 15 = .ok (.aload_n 0, 1) := by decide +kernel
theorem dX6_init_16 : decode cX6_init 16 = .ok (.sipush 3000, 3) := by decide +kernel
theorem dX6_init_19 : decode cX6_init 19 = .ok (.newarray .long, 2) := by decide +kernel
theorem dX6_init_21 : decode cX6_init 21 = .ok (.putfield 18, 3) := by decide +kernel
theorem dX6_init_24 : decode cX6_init 24 = .ok (.aload_n 0, 1) := by decide +kernel
theorem dX6_init_25 : decode cX6_init 25 = .ok (.sipush 3000, 3) := by decide +kernel
theorem dX6_init_28 : decode cX6_init 28 = .ok (.newarray .int, 2) := by decide +kernel
theorem dX6_init_30 : decode cX6_init 30 = .ok (.putfield 22, 3) := by decide +kernel
theorem dX6_init_33 : decode cX6_init 33 = .ok (.aload_n 0, 1) := by decide +kernel
theorem dX6_init_34 : decode cX6_init 34 = .ok (.sipush 3000, 3) := by decide +kernel
theorem dX6_init_37 : decode cX6_init 37 = .ok (.newarray .int, 2) := by decide +kernel
theorem dX6_init_39 : decode cX6_init 39 = .ok (.putfield 26, 3) := by decide +kernel
theorem dX6_init_42 : decode cX6_init 42 = .ok (.aload_n 0, 1) := by decide +kernel
theorem dX6_init_43 : decode cX6_init 43 = .ok (.sipush 3000, 3) := by decide +kernel
theorem dX6_init_46 : decode cX6_init 46 = .ok (.newarray .int, 2) := by decide +kernel
theorem dX6_init_48 : decode cX6_init 48 = .ok (.putfield 29, 3) := by decide +kernel
theorem dX6_init_51 : decode cX6_init 51 = .ok (.aload_n 0, 1) := by decide +kernel
theorem dX6_init_52 : decode cX6_init 52 = .ok (.sipush 8192, 3) := by decide +kernel
theorem dX6_init_55 : decode cX6_init 55 = .ok (.newarray .int, 2) := by decide +kernel
theorem dX6_init_57 : decode cX6_init 57 = .ok (.putfield 32, 3) := by decide +kernel
theorem dX6_init_60 : decode cX6_init 60 = .ok (.aload_n 0, 1) := by decide +kernel
theorem dX6_init_61 : decode cX6_init 61 = .ok (.iconst 0, 1) := by decide +kernel
theorem dX6_init_62 : decode cX6_init 62 = .ok (.putfield 35, 3) := by decide +kernel
theorem dX6_init_65 : decode cX6_init 65 = .ok (.aload_n 0, 1) := by decide +kernel
theorem dX6_init_66 : decode cX6_init 66 = .ok (.iconst 0, 1) := by decide +kernel
theorem dX6_init_67 : decode cX6_init 67 = .ok (.putfield 39, 3) := by decide +kernel
theorem dX6_init_70 : decode cX6_init 70 = .ok (.aload_n 0, 1) := by decide +kernel
theorem dX6_init_71 : decode cX6_init 71 = .ok (.iconst 0, 1) := by decide +kernel
theorem dX6_init_72 : decode cX6_init 72 = .ok (.putfield 43, 3) := by decide +kernel
theorem dX6_init_75 : decode cX6_init 75 = .ok (.aload_n 0, 1) := by decide +kernel
theorem dX6_init_76 : decode cX6_init 76 = .ok (.iconst 0, 1) := by decide +kernel
theorem dX6_init_77 : decode cX6_init 77 = .ok (.putfield 46, 3) := by decide +kernel
theorem dX6_init_80 : decode cX6_init 80 = .ok (.aload_n 0, 1) := by decide +kernel
theorem dX6_init_81 : decode cX6_init 81 = .ok (.iconst 0, 1) := by decide +kernel
theorem dX6_init_82 : decode cX6_init 82 = .ok (.putfield 49, 3) := by decide +kernel
theorem dX6_init_85 : decode cX6_init 85 = .ok (.aload_n 0, 1) := by decide +kernel
theorem dX6_init_86 : decode cX6_init 86 = .ok (.aload_n 1, 1) := by decide +kernel
theorem dX6_init_87 : decode cX6_init 87 = .ok (.putfield 52, 3) := by decide +kernel
theorem dX6_init_90 : decode cX6_init 90 = .ok (.return_, 1) := by decide +kernel
theorem dX6_wantNothing_0 : decode cX6_wantNothing 0 = .ok (.aload_n 0, 1) := by decide +kernel
theorem dX6_wantNothing_1 : decode cX6_wantNothing 1 = .ok (.iconst 0, 1) := by decide +kernel
theorem dX6_wantNothing_2 : decode cX6_wantNothing 2 = .ok (.putfield 43, 3) := by decide +kernel
theorem dX6_wantNothing_5 : decode cX6_wantNothing 5 = .ok (.return_, 1) := by decide +kernel
theorem dX6_wantHome_0 : decode cX6_wantHome 0 = .ok (.aload_n 0, 1) := by decide +kernel
theorem dX6_wantHome_1 : decode cX6_wantHome 1 = .ok (.iconst 1, 1) := by decide +kernel
theorem dX6_wantHome_2 : decode cX6_wantHome 2 = .ok (.putfield 43, 3) := by decide +kernel
theorem dX6_wantHome_5 : decode cX6_wantHome 5 = .ok (.aload_n 0, 1) := by decide +kernel
theorem dX6_wantHome_6 : decode cX6_wantHome 6 = .ok (.iload_n 1, 1) := by decide +kernel
theorem dX6_wantHome_7 : decode cX6_wantHome 7 = .ok (.putfield 46, 3) := by decide +kernel
theorem dX6_wantHome_10 : decode cX6_wantHome 10 = .ok (.return_, 1) := by decide +kernel
theorem dX6_wantGathered_0 : decode cX6_wantGathered 0 = .ok (.aload_n 0, 1) := by decide +kernel
theorem dX6_wantGathered_1 : decode cX6_wantGathered 1 = .ok (.iconst 2, 1) := by decide +kernel
theorem dX6_wantGathered_2 : decode cX6_wantGathered 2 = .ok (.putfield 43, 3) := by decide +kernel
theorem dX6_wantGathered_5 : decode cX6_wantGathered 5 = .ok (.aload_n 0, 1) := by decide +kernel
theorem dX6_wantGathered_6 : decode cX6_wantGathered 6 = .ok (.iload_n 1, 1) := by decide +kernel
theorem dX6_wantGathered_7 : decode cX6_wantGathered 7 = .ok (.putfield 49, 3) := by decide +kernel
theorem dX6_wantGathered_10 : decode cX6_wantGathered 10 = .ok (.aload_n 0, 1) := by decide +kernel
theorem dX6_wantGathered_11 : decode cX6_wantGathered 11 = .ok (.iload_n 2, 1) := by decide +kernel
theorem dX6_wantGathered_12 : decode cX6_wantGathered 12 = .ok (.putfield 46, 3) := by decide +kernel
theorem dX6_wantGathered_15 : decode cX6_wantGathered 15 = .ok (.return_, 1) := by decide +kernel
theorem dX6_seek_0 : decode cX6_seek 0 = .ok (.aload_n 0, 1) := by decide +kernel
theorem dX6_seek_1 : decode cX6_seek 1 = .ok (.getfield 32, 3) := by decide +kernel
theorem dX6_seek_4 : decode cX6_seek 4 = .ok (.iconst 0, 1) := by decide +kernel
theorem dX6_seek_5 : decode cX6_seek 5 = .ok (.invokestatic 56, 3) := by decide +kernel
theorem dX6_seek_8 : decode cX6_seek 8 = .ok (.aload_n 0, 1) := by decide +kernel
theorem dX6_seek_9 : decode cX6_seek 9 = .ok (.iconst 0, 1) := by decide +kernel
theorem dX6_seek_10 : decode cX6_seek 10 = .ok (.putfield 35, 3) := by decide +kernel
theorem dX6_seek_13 : decode cX6_seek 13 = .ok (.aload_n 0, 1) := by decide +kernel
theorem dX6_seek_14 : decode cX6_seek 14 = .ok (.iconst 0, 1) := by decide +kernel
theorem dX6_seek_15 : decode cX6_seek 15 = .ok (.putfield 39, 3) := by decide +kernel
theorem dX6_seek_18 : decode cX6_seek 18 = .ok (.aload_n 0, 1) := by decide +kernel
theorem dX6_seek_19 : decode cX6_seek 19 = .ok (.getfield 12, 3) := by decide +kernel
theorem dX6_seek_22 : decode cX6_seek 22 = .ok (.aload_n 1, 1) := by decide +kernel
theorem dX6_seek_23 : decode cX6_seek 23 = .ok (.invokevirtual 62, 3) := by decide +kernel
theorem dX6_seek_26 : decode cX6_seek 26 = .ok (.aload_n 0, 1) := by decide +kernel
theorem dX6_seek_27 : decode cX6_seek 27 = .ok (.getfield 12, 3) := by decide +kernel
theorem dX6_seek_30 : decode cX6_seek 30 = .ok (.aload_n 1, 1) := by decide +kernel
theorem dX6_seek_31 : decode cX6_seek 31 = .ok (.getfield 66, 3) := by decide +kernel
theorem dX6_seek_34 : decode cX6_seek 34 = .ok (.bipush 7, 2) := by decide +kernel
theorem dX6_seek_36 : decode cX6_seek 36 = .ok (.irem, 1) := by decide +kernel
theorem dX6_seek_37 : decode cX6_seek 37 = .ok (.putfield 66, 3) := by decide +kernel
theorem dX6_seek_40 : decode cX6_seek 40 = .ok (.aload_n 0, 1) := by decide +kernel
theorem dX6_seek_41 : decode cX6_seek 41 = .ok (.aload_n 0, 1) := by decide +kernel
theorem dX6_seek_42 : decode cX6_seek 42 = .ok (.getfield 12, 3) := by decide +kernel
theorem dX6_seek_45 : decode cX6_seek 45 = .ok (.invokestatic 69, 3) := by decide +kernel
theorem dX6_seek_48 : decode cX6_seek 48 = .ok (.iconst 0, 1) := by decide +kernel
theorem dX6_seek_49 : decode cX6_seek 49 = .ok (.iconst 0, 1) := by decide +kernel
theorem dX6_seek_50 : decode cX6_seek 50 = .ok (.invokevirtual 73, 3) := by decide +kernel
theorem dX6_seek_53 : decode cX6_seek 53 = .ok (.istore_n 3, 1) := by decide +kernel
theorem dX6_seek_54 : decode cX6_seek 54 = .ok (.iload_n 3, 1) := by decide +kernel
theorem dX6_seek_55 : decode cX6_seek 55 = .ok (.ifCond .ne 13, 3) := by decide +kernel
theorem dX6_seek_58 : decode cX6_seek 58 = .ok (.aload_n 0, 1) := by decide +kernel
theorem dX6_seek_59 : decode cX6_seek 59 = .ok (.iload_n 3, 1) := by decide +kernel
theorem dX6_seek_60 : decode cX6_seek 60 = .ok (.invokevirtual 77, 3) := by decide +kernel
theorem dX6_seek_63 : decode cX6_seek 63 = .ok (.ifCond .eq 5, 3) := by decide +kernel
theorem dX6_seek_66 : decode cX6_seek 66 = .ok (.iload_n 3, 1) := by decide +kernel
theorem dX6_seek_67 : decode cX6_seek 67 = .ok (.ireturn, 1) := by decide +kernel
theorem dX6_seek_68 : decode cX6_seek 68 = .ok (.iconst 0, 1) := by decide +kernel
theorem dX6_seek_69 : decode cX6_seek 69 = .ok (.istore 4, 2) := by decide +kernel
theorem dX6_seek_71 : decode cX6_seek 71 = .ok (.iload 4, 2) := by decide +kernel
theorem dX6_seek_73 : decode cX6_seek 73 = .ok (.sipush 3000, 3) := by decide +kernel
theorem dX6_seek_76 : decode cX6_seek 76 = .ok (.if_icmp .ge 53, 3) := by decide +kernel
theorem dX6_seek_79 : decode cX6_seek 79 = .ok (.iload 4, 2) := by decide +kernel
theorem dX6_seek_81 : decode cX6_seek 81 = .ok (.aload_n 0, 1) := by decide +kernel
theorem dX6_seek_82 : decode cX6_seek 82 = .ok (.getfield 35, 3) := by decide +kernel
theorem dX6_seek_85 : decode cX6_seek 85 = .ok (.if_icmp .ge 44, 3) := by decide +kernel
theorem dX6_seek_88 : decode cX6_seek 88 = .ok (.aload_n 0, 1) := by decide +kernel
theorem dX6_seek_89 : decode cX6_seek 89 = .ok (.getfield 29, 3) := by decide +kernel
theorem dX6_seek_92 : decode cX6_seek 92 = .ok (.iload 4, 2) := by decide +kernel
theorem dX6_seek_94 : decode cX6_seek 94 = .ok (.iaload, 1) := by decide +kernel
theorem dX6_seek_95 : decode cX6_seek 95 = .ok (.iload_n 2, 1) := by decide +kernel
theorem dX6_seek_96 : decode cX6_seek 96 = .ok (.if_icmp .ge 33, 3) := by decide +kernel
theorem dX6_seek_99 : decode cX6_seek 99 = .ok (.aload_n 0, 1) := by decide +kernel
theorem dX6_seek_100 : decode cX6_seek 100 = .ok (.getfield 39, 3) := by decide +kernel
theorem dX6_seek_103 : decode cX6_seek 103 = .ok (.ifCond .ne 26, 3) := by decide +kernel
theorem dX6_seek_106 : decode cX6_seek 106 = .ok (.aload_n 0, 1) := by decide +kernel
theorem dX6_seek_107 : decode cX6_seek 107 = .ok (.iload 4, 2) := by decide +kernel
theorem dX6_seek_109 : decode cX6_seek 109 = .ok (.invokevirtual 81, 3) := by decide +kernel
theorem dX6_seek_112 : decode cX6_seek 112 = .ok (.istore 5, 2) := by decide +kernel
theorem dX6_seek_114 : decode cX6_seek 114 = .ok (.iload 5, 2) := by decide +kernel
theorem dX6_seek_116 : decode cX6_seek 116 = .ok (.iconst (-1), 1) := by decide +kernel
theorem dX6_seek_117 : decode cX6_seek 117 = .ok (.if_icmp .eq 6, 3) := by decide +kernel
theorem dX6_seek_120 : decode cX6_seek 120 = .ok (.iload 5, 2) := by decide +kernel
theorem dX6_seek_122 : decode cX6_seek 122 = .ok (.ireturn, 1) := by decide +kernel
theorem dX6_seek_123 : decode cX6_seek 123 = .ok (.iinc 4 1, 3) := by decide +kernel
theorem dX6_seek_126 : decode cX6_seek 126 = .ok (.goto (-55), 3) := by decide +kernel
theorem dX6_seek_129 : decode cX6_seek 129 = .ok (.iconst (-1), 1) := by decide +kernel
theorem dX6_seek_130 : decode cX6_seek 130 = .ok (.ireturn, 1) := by decide +kernel
theorem dX6_goOnFrom_0 : decode cX6_goOnFrom 0 = .ok (.aload_n 0, 1) := by decide +kernel
theorem dX6_goOnFrom_1 : decode cX6_goOnFrom 1 = .ok (.aload_n 0, 1) := by decide +kernel
theorem dX6_goOnFrom_2 : decode cX6_goOnFrom 2 = .ok (.getfield 18, 3) := by decide +kernel
theorem dX6_goOnFrom_5 : decode cX6_goOnFrom 5 = .ok (.iload_n 1, 1) := by decide +kernel
theorem dX6_goOnFrom_6 : decode cX6_goOnFrom 6 = .ok (.laload, 1) := by decide +kernel
theorem dX6_goOnFrom_7 : decode cX6_goOnFrom 7 = .ok (.invokevirtual 85, 3) := by decide +kernel
theorem dX6_goOnFrom_10 : decode cX6_goOnFrom 10 = .ok (.aload_n 0, 1) := by decide +kernel
theorem dX6_goOnFrom_11 : decode cX6_goOnFrom 11 = .ok (.getfield 12, 3) := by decide +kernel
theorem dX6_goOnFrom_14 : decode cX6_goOnFrom 14 = .ok (.aload_n 0, 1) := by decide +kernel
theorem dX6_goOnFrom_15 : decode cX6_goOnFrom 15 = .ok (.getfield 12, 3) := by decide +kernel
theorem dX6_goOnFrom_18 : decode cX6_goOnFrom 18 = .ok (.getfield 89, 3) := by decide +kernel
theorem dX6_goOnFrom_21 : decode cX6_goOnFrom 21 = .ok (.invokevirtual 92, 3) := by decide +kernel
theorem dX6_goOnFrom_24 : decode cX6_goOnFrom 24 = .ok (.istore_n 2, 1) := by decide +kernel
theorem dX6_goOnFrom_25 : decode cX6_goOnFrom 25 = .ok (.iload_n 2, 1) := by decide +kernel
theorem dX6_goOnFrom_26 : decode cX6_goOnFrom 26 = .ok (.invokestatic 95, 3) := by decide +kernel
theorem dX6_goOnFrom_29 : decode cX6_goOnFrom 29 = .ok (.istore_n 3, 1) := by decide +kernel
theorem dX6_goOnFrom_30 : decode cX6_goOnFrom 30 = .ok (.iconst 0, 1) := by decide +kernel
theorem dX6_goOnFrom_31 : decode cX6_goOnFrom 31 = .ok (.istore 4, 2) := by decide +kernel
theorem dX6_goOnFrom_33 : decode cX6_goOnFrom 33 = .ok (.iconst 0, 1) := by decide +kernel
theorem dX6_goOnFrom_34 : decode cX6_goOnFrom 34 = .ok (.istore 5, 2) := by decide +kernel
theorem dX6_goOnFrom_36 : decode cX6_goOnFrom 36 = .ok (.iload 5, 2) := by decide +kernel
theorem dX6_goOnFrom_38 : decode cX6_goOnFrom 38 = .ok (.iload_n 3, 1) := by decide +kernel
theorem dX6_goOnFrom_39 : decode cX6_goOnFrom 39 = .ok (.if_icmp .ge 74, 3) := by decide +kernel
theorem dX6_goOnFrom_42 : decode cX6_goOnFrom 42 = .ok (.aload_n 0, 1) := by decide +kernel
theorem dX6_goOnFrom_43 : decode cX6_goOnFrom 43 = .ok (.getfield 39, 3) := by decide +kernel
theorem dX6_goOnFrom_46 : decode cX6_goOnFrom 46 = .ok (.ifCond .ne 67, 3) := by decide +kernel
theorem dX6_goOnFrom_49 : decode cX6_goOnFrom 49 = .ok (.aload_n 0, 1) := by decide +kernel
theorem dX6_goOnFrom_50 : decode cX6_goOnFrom 50 = .ok (.getfield 52, 3) := by decide +kernel
theorem dX6_goOnFrom_53 : decode cX6_goOnFrom 53 = .ok (.aload_n 0, 1) := by decide +kernel
theorem dX6_goOnFrom_54 : decode cX6_goOnFrom 54 = .ok (.getfield 12, 3) := by decide +kernel
theorem dX6_goOnFrom_57 : decode cX6_goOnFrom 57 = .ok (.iload 4, 2) := by decide +kernel
theorem dX6_goOnFrom_59 : decode cX6_goOnFrom 59 = .ok (.invokevirtual 98, 3) := by decide +kernel
theorem dX6_goOnFrom_62 : decode cX6_goOnFrom 62 = .ok (.istore 6, 2) := by decide +kernel
theorem dX6_goOnFrom_64 : decode cX6_goOnFrom 64 = .ok (.aload_n 0, 1) := by decide +kernel
theorem dX6_goOnFrom_65 : decode cX6_goOnFrom 65 = .ok (.aload_n 0, 1) := by decide +kernel
theorem dX6_goOnFrom_66 : decode cX6_goOnFrom 66 = .ok (.iload 4, 2) := by decide +kernel
theorem dX6_goOnFrom_68 : decode cX6_goOnFrom 68 = .ok (.iload 6, 2) := by decide +kernel
theorem dX6_goOnFrom_70 : decode cX6_goOnFrom 70 = .ok (.invokevirtual 104, 3) := by decide +kernel
theorem dX6_goOnFrom_73 : decode cX6_goOnFrom 73 = .ok (.iload_n 1, 1) := by decide +kernel
theorem dX6_goOnFrom_74 : decode cX6_goOnFrom 74 = .ok (.iload 4, 2) := by decide +kernel
theorem dX6_goOnFrom_76 : decode cX6_goOnFrom 76 = .ok (.invokevirtual 73, 3) := by decide +kernel
theorem dX6_goOnFrom_79 : decode cX6_goOnFrom 79 = .ok (.istore 7, 2) := by decide +kernel
theorem dX6_goOnFrom_81 : decode cX6_goOnFrom 81 = .ok (.iload 7, 2) := by decide +kernel
theorem dX6_goOnFrom_83 : decode cX6_goOnFrom 83 = .ok (.iconst (-1), 1) := by decide +kernel
theorem dX6_goOnFrom_84 : decode cX6_goOnFrom 84 = .ok (.if_icmp .eq 15, 3) := by decide +kernel
theorem dX6_goOnFrom_87 : decode cX6_goOnFrom 87 = .ok (.aload_n 0, 1) := by decide +kernel
theorem dX6_goOnFrom_88 : decode cX6_goOnFrom 88 = .ok (.iload 7, 2) := by decide +kernel
theorem dX6_goOnFrom_90 : decode cX6_goOnFrom 90 = .ok (.invokevirtual 77, 3) := by decide +kernel
theorem dX6_goOnFrom_93 : decode cX6_goOnFrom 93 = .ok (.ifCond .eq 6, 3) := by decide +kernel
theorem dX6_goOnFrom_96 : decode cX6_goOnFrom 96 = .ok (.iload 7, 2) := by decide +kernel
theorem dX6_goOnFrom_98 : decode cX6_goOnFrom 98 = .ok (.ireturn, 1) := by decide +kernel
theorem dX6_goOnFrom_99 : decode cX6_goOnFrom 99 = .ok (.iload 4, 2) := by decide +kernel
theorem dX6_goOnFrom_101 : decode cX6_goOnFrom 101 = .ok (.iload_n 2, 1) := by decide +kernel
theorem dX6_goOnFrom_102 : decode cX6_goOnFrom 102 = .ok (.invokestatic 108, 3) := by decide +kernel
theorem dX6_goOnFrom_105 : decode cX6_goOnFrom 105 = .ok (.istore 4, 2) := by decide +kernel
theorem dX6_goOnFrom_107 : decode cX6_goOnFrom 107 = .ok (.iinc 5 1, 3) := by decide +kernel
theorem dX6_goOnFrom_110 : decode cX6_goOnFrom 110 = .ok (.goto (-74), 3) := by decide +kernel
theorem dX6_goOnFrom_113 : decode cX6_goOnFrom 113 = .ok (.iconst (-1), 1) := by decide +kernel
theorem dX6_goOnFrom_114 : decode cX6_goOnFrom 114 = .ok (.ireturn, 1) := by decide +kernel
theorem dX6_keyOf_0 : decode cX6_keyOf 0 = .ok (.aload_n 0, 1) := by decide +kernel
theorem dX6_keyOf_1 : decode cX6_keyOf 1 = .ok (.getfield 66, 3) := by decide +kernel
theorem dX6_keyOf_4 : decode cX6_keyOf 4 = .ok (.i2l, 1) := by decide +kernel
theorem dX6_keyOf_5 : decode cX6_keyOf 5 = .ok (.iconst 4, 1) := by decide +kernel
theorem dX6_keyOf_6 : decode cX6_keyOf 6 = .ok (.lshl, 1) := by decide +kernel
theorem dX6_keyOf_7 : decode cX6_keyOf 7 = .ok (.aload_n 0, 1) := by decide +kernel
theorem dX6_keyOf_8 : decode cX6_keyOf 8 = .ok (.getfield 89, 3) := by decide +kernel
theorem dX6_keyOf_11 : decode cX6_keyOf 11 = .ok (.i2l, 1) := by decide +kernel
theorem dX6_keyOf_12 : decode cX6_keyOf 12 = .ok (.lor, 1) := by decide +kernel
theorem dX6_keyOf_13 : decode cX6_keyOf 13 = .ok (.lstore_n 1, 1) := by decide +kernel
theorem dX6_keyOf_14 : decode cX6_keyOf 14 = .ok (.bipush 9, 2) := by decide +kernel
theorem dX6_keyOf_16 : decode cX6_keyOf 16 = .ok (.istore_n 3, 1) := by decide +kernel
theorem dX6_keyOf_17 : decode cX6_keyOf 17 = .ok (.iload_n 3, 1) := by decide +kernel
theorem dX6_keyOf_18 : decode cX6_keyOf 18 = .ok (.ifCond .lt 23, 3) := by decide +kernel
theorem dX6_keyOf_21 : decode cX6_keyOf 21 = .ok (.lload_n 1, 1) := by decide +kernel
theorem dX6_keyOf_22 : decode cX6_keyOf 22 = .ok (.iconst 4, 1) := by decide +kernel
theorem dX6_keyOf_23 : decode cX6_keyOf 23 = .ok (.lshl, 1) := by decide +kernel
theorem dX6_keyOf_24 : decode cX6_keyOf 24 = .ok (.aload_n 0, 1) := by decide +kernel
theorem dX6_keyOf_25 : decode cX6_keyOf 25 = .ok (.getfield 112, 3) := by decide +kernel
theorem dX6_keyOf_28 : decode cX6_keyOf 28 = .ok (.iload_n 3, 1) := by decide +kernel
theorem dX6_keyOf_29 : decode cX6_keyOf 29 = .ok (.iaload, 1) := by decide +kernel
theorem dX6_keyOf_30 : decode cX6_keyOf 30 = .ok (.iconst 1, 1) := by decide +kernel
theorem dX6_keyOf_31 : decode cX6_keyOf 31 = .ok (.iadd, 1) := by decide +kernel
theorem dX6_keyOf_32 : decode cX6_keyOf 32 = .ok (.i2l, 1) := by decide +kernel
theorem dX6_keyOf_33 : decode cX6_keyOf 33 = .ok (.lor, 1) := by decide +kernel
theorem dX6_keyOf_34 : decode cX6_keyOf 34 = .ok (.lstore_n 1, 1) := by decide +kernel
theorem dX6_keyOf_35 : decode cX6_keyOf 35 = .ok (.iinc 3 (-1), 3) := by decide +kernel
theorem dX6_keyOf_38 : decode cX6_keyOf 38 = .ok (.goto (-21), 3) := by decide +kernel
theorem dX6_keyOf_41 : decode cX6_keyOf 41 = .ok (.lload_n 1, 1) := by decide +kernel
theorem dX6_keyOf_42 : decode cX6_keyOf 42 = .ok (.lreturn, 1) := by decide +kernel
theorem dX6_bringUp_0 : decode cX6_bringUp 0 = .ok (.iconst 0, 1) := by decide +kernel
theorem dX6_bringUp_1 : decode cX6_bringUp 1 = .ok (.istore_n 3, 1) := by decide +kernel
theorem dX6_bringUp_2 : decode cX6_bringUp 2 = .ok (.iload_n 3, 1) := by decide +kernel
theorem dX6_bringUp_3 : decode cX6_bringUp 3 = .ok (.bipush 10, 2) := by decide +kernel
theorem dX6_bringUp_5 : decode cX6_bringUp 5 = .ok (.if_icmp .ge 23, 3) := by decide +kernel
theorem dX6_bringUp_8 : decode cX6_bringUp 8 = .ok (.aload_n 0, 1) := by decide +kernel
theorem dX6_bringUp_9 : decode cX6_bringUp 9 = .ok (.getfield 12, 3) := by decide +kernel
theorem dX6_bringUp_12 : decode cX6_bringUp 12 = .ok (.getfield 112, 3) := by decide +kernel
theorem dX6_bringUp_15 : decode cX6_bringUp 15 = .ok (.iload_n 3, 1) := by decide +kernel
theorem dX6_bringUp_16 : decode cX6_bringUp 16 = .ok (.lload_n 1, 1) := by decide +kernel
theorem dX6_bringUp_17 : decode cX6_bringUp 17 = .ok (.iload_n 3, 1) := by decide +kernel
theorem dX6_bringUp_18 : decode cX6_bringUp 18 = .ok (.invokestatic 115, 3) := by decide +kernel
theorem dX6_bringUp_21 : decode cX6_bringUp 21 = .ok (.iastore, 1) := by decide +kernel
theorem dX6_bringUp_22 : decode cX6_bringUp 22 = .ok (.iinc 3 1, 3) := by decide +kernel
theorem dX6_bringUp_25 : decode cX6_bringUp 25 = .ok (.goto (-23), 3) := by decide +kernel
theorem dX6_bringUp_28 : decode cX6_bringUp 28 = .ok (.aload_n 0, 1) := by decide +kernel
theorem dX6_bringUp_29 : decode cX6_bringUp 29 = .ok (.getfield 12, 3) := by decide +kernel
theorem dX6_bringUp_32 : decode cX6_bringUp 32 = .ok (.lload_n 1, 1) := by decide +kernel
theorem dX6_bringUp_33 : decode cX6_bringUp 33 = .ok (.invokestatic 119, 3) := by decide +kernel
theorem dX6_bringUp_36 : decode cX6_bringUp 36 = .ok (.putfield 89, 3) := by decide +kernel
theorem dX6_bringUp_39 : decode cX6_bringUp 39 = .ok (.aload_n 0, 1) := by decide +kernel
theorem dX6_bringUp_40 : decode cX6_bringUp 40 = .ok (.getfield 12, 3) := by decide +kernel
theorem dX6_bringUp_43 : decode cX6_bringUp 43 = .ok (.lload_n 1, 1) := by decide +kernel
theorem dX6_bringUp_44 : decode cX6_bringUp 44 = .ok (.bipush 44, 2) := by decide +kernel
theorem dX6_bringUp_46 : decode cX6_bringUp 46 = .ok (.lushr, 1) := by decide +kernel
theorem dX6_bringUp_47 : decode cX6_bringUp 47 = .ok (.l2i, 1) := by decide +kernel
theorem dX6_bringUp_48 : decode cX6_bringUp 48 = .ok (.putfield 66, 3) := by decide +kernel
theorem dX6_bringUp_51 : decode cX6_bringUp 51 = .ok (.return_, 1) := by decide +kernel
theorem dX6_floorOf_0 : decode cX6_floorOf 0 = .ok (.lload_n 0, 1) := by decide +kernel
theorem dX6_floorOf_1 : decode cX6_floorOf 1 = .ok (.iconst 4, 1) := by decide +kernel
theorem dX6_floorOf_2 : decode cX6_floorOf 2 = .ok (.iload_n 2, 1) := by decide +kernel
theorem dX6_floorOf_3 : decode cX6_floorOf 3 = .ok (.imul, 1) := by decide +kernel
theorem dX6_floorOf_4 : decode cX6_floorOf 4 = .ok (.lushr, 1) := by decide +kernel
theorem dX6_floorOf_5 : decode cX6_floorOf 5 = .ok (.ldc2_w 123, 3) := by decide +kernel
theorem dX6_floorOf_8 : decode cX6_floorOf 8 = .ok (.land, 1) := by decide +kernel
theorem dX6_floorOf_9 : decode cX6_floorOf 9 = .ok (.l2i, 1) := by decide +kernel
theorem dX6_floorOf_10 : decode cX6_floorOf 10 = .ok (.iconst 1, 1) := by decide +kernel
theorem dX6_floorOf_11 : decode cX6_floorOf 11 = .ok (.isub, 1) := by decide +kernel
theorem dX6_floorOf_12 : decode cX6_floorOf 12 = .ok (.ireturn, 1) := by decide +kernel
theorem dX6_liftOf_0 : decode cX6_liftOf 0 = .ok (.lload_n 0, 1) := by decide +kernel
theorem dX6_liftOf_1 : decode cX6_liftOf 1 = .ok (.bipush 40, 2) := by decide +kernel
theorem dX6_liftOf_3 : decode cX6_liftOf 3 = .ok (.lushr, 1) := by decide +kernel
theorem dX6_liftOf_4 : decode cX6_liftOf 4 = .ok (.ldc2_w 123, 3) := by decide +kernel
theorem dX6_liftOf_7 : decode cX6_liftOf 7 = .ok (.land, 1) := by decide +kernel
theorem dX6_liftOf_8 : decode cX6_liftOf 8 = .ok (.l2i, 1) := by decide +kernel
theorem dX6_liftOf_9 : decode cX6_liftOf 9 = .ok (.ireturn, 1) := by decide +kernel
theorem dX6_keyAfter_0 : decode cX6_keyAfter 0 = .ok (.aload_n 0, 1) := by decide +kernel
theorem dX6_keyAfter_1 : decode cX6_keyAfter 1 = .ok (.getfield 52, 3) := by decide +kernel
theorem dX6_keyAfter_4 : decode cX6_keyAfter 4 = .ok (.iload_n 1, 1) := by decide +kernel
theorem dX6_keyAfter_5 : decode cX6_keyAfter 5 = .ok (.iload_n 2, 1) := by decide +kernel
theorem dX6_keyAfter_6 : decode cX6_keyAfter 6 = .ok (.invokevirtual 125, 3) := by decide +kernel
theorem dX6_keyAfter_9 : decode cX6_keyAfter 9 = .ok (.istore_n 3, 1) := by decide +kernel
theorem dX6_keyAfter_10 : decode cX6_keyAfter 10 = .ok (.aload_n 0, 1) := by decide +kernel
theorem dX6_keyAfter_11 : decode cX6_keyAfter 11 = .ok (.getfield 12, 3) := by decide +kernel
theorem dX6_keyAfter_14 : decode cX6_keyAfter 14 = .ok (.getfield 66, 3) := by decide +kernel
theorem dX6_keyAfter_17 : decode cX6_keyAfter 17 = .ok (.iconst 1, 1) := by decide +kernel
theorem dX6_keyAfter_18 : decode cX6_keyAfter 18 = .ok (.iadd, 1) := by decide +kernel
theorem dX6_keyAfter_19 : decode cX6_keyAfter 19 = .ok (.bipush 7, 2) := by decide +kernel
theorem dX6_keyAfter_21 : decode cX6_keyAfter 21 = .ok (.irem, 1) := by decide +kernel
theorem dX6_keyAfter_22 : decode cX6_keyAfter 22 = .ok (.i2l, 1) := by decide +kernel
theorem dX6_keyAfter_23 : decode cX6_keyAfter 23 = .ok (.iconst 4, 1) := by decide +kernel
theorem dX6_keyAfter_24 : decode cX6_keyAfter 24 = .ok (.lshl, 1) := by decide +kernel
theorem dX6_keyAfter_25 : decode cX6_keyAfter 25 = .ok (.iload_n 2, 1) := by decide +kernel
theorem dX6_keyAfter_26 : decode cX6_keyAfter 26 = .ok (.i2l, 1) := by decide +kernel
theorem dX6_keyAfter_27 : decode cX6_keyAfter 27 = .ok (.lor, 1) := by decide +kernel
theorem dX6_keyAfter_28 : decode cX6_keyAfter 28 = .ok (.lstore 4, 2) := by decide +kernel
theorem dX6_keyAfter_30 : decode cX6_keyAfter 30 = .ok (.bipush 9, 2) := by decide +kernel
theorem dX6_keyAfter_32 : decode cX6_keyAfter 32 = .ok (.istore 6, 2) := by decide +kernel
theorem dX6_keyAfter_34 : decode cX6_keyAfter 34 = .ok (.iload 6, 2) := by decide +kernel
theorem dX6_keyAfter_36 : decode cX6_keyAfter 36 = .ok (.ifCond .lt 59, 3) := by decide +kernel
theorem dX6_keyAfter_39 : decode cX6_keyAfter 39 = .ok (.iload_n 1, 1) := by decide +kernel
theorem dX6_keyAfter_40 : decode cX6_keyAfter 40 = .ok (.iload 6, 2) := by decide +kernel
theorem dX6_keyAfter_42 : decode cX6_keyAfter 42 = .ok (.ishr, 1) := by decide +kernel
theorem dX6_keyAfter_43 : decode cX6_keyAfter 43 = .ok (.iconst 1, 1) := by decide +kernel
theorem dX6_keyAfter_44 : decode cX6_keyAfter 44 = .ok (.iand, 1) := by decide +kernel
theorem dX6_keyAfter_45 : decode cX6_keyAfter 45 = .ok (.ifCond .ne 16, 3) := by decide +kernel
theorem dX6_keyAfter_48 : decode cX6_keyAfter 48 = .ok (.aload_n 0, 1) := by decide +kernel
theorem dX6_keyAfter_49 : decode cX6_keyAfter 49 = .ok (.getfield 12, 3) := by decide +kernel
theorem dX6_keyAfter_52 : decode cX6_keyAfter 52 = .ok (.getfield 112, 3) := by decide +kernel
theorem dX6_keyAfter_55 : decode cX6_keyAfter 55 = .ok (.iload 6, 2) := by decide +kernel
theorem dX6_keyAfter_57 : decode cX6_keyAfter 57 = .ok (.iaload, 1) := by decide +kernel
theorem dX6_keyAfter_58 : decode cX6_keyAfter 58 = .ok (.goto 4, 3) := by decide +kernel
theorem dX6_keyAfter_61 : decode cX6_keyAfter 61 = .ok (.iload_n 2, 1) := by decide +kernel
theorem dX6_keyAfter_62 : decode cX6_keyAfter 62 = .ok (.istore 7, 2) := by decide +kernel
theorem dX6_keyAfter_64 : decode cX6_keyAfter 64 = .ok (.lload 4, 2) := by decide +kernel
theorem dX6_keyAfter_66 : decode cX6_keyAfter 66 = .ok (.iconst 4, 1) := by decide +kernel
theorem dX6_keyAfter_67 : decode cX6_keyAfter 67 = .ok (.lshl, 1) := by decide +kernel
theorem dX6_keyAfter_68 : decode cX6_keyAfter 68 = .ok (.iload_n 3, 1) := by decide +kernel
theorem dX6_keyAfter_69 : decode cX6_keyAfter 69 = .ok (.iload 6, 2) := by decide +kernel
theorem dX6_keyAfter_71 : decode cX6_keyAfter 71 = .ok (.ishr, 1) := by decide +kernel
theorem dX6_keyAfter_72 : decode cX6_keyAfter 72 = .ok (.iconst 1, 1) := by decide +kernel
theorem dX6_keyAfter_73 : decode cX6_keyAfter 73 = .ok (.iand, 1) := by decide +kernel
theorem dX6_keyAfter_74 : decode cX6_keyAfter 74 = .ok (.ifCond .ne 10, 3) := by decide +kernel
theorem dX6_keyAfter_77 : decode cX6_keyAfter 77 = .ok (.iload 7, 2) := by decide +kernel
theorem dX6_keyAfter_79 : decode cX6_keyAfter 79 = .ok (.iconst 1, 1) := by decide +kernel
theorem dX6_keyAfter_80 : decode cX6_keyAfter 80 = .ok (.iadd, 1) := by decide +kernel
theorem dX6_keyAfter_81 : decode cX6_keyAfter 81 = .ok (.goto 4, 3) := by decide +kernel
theorem dX6_keyAfter_84 : decode cX6_keyAfter 84 = .ok (.iconst 0, 1) := by decide +kernel
theorem dX6_keyAfter_85 : decode cX6_keyAfter 85 = .ok (.i2l, 1) := by decide +kernel
theorem dX6_keyAfter_86 : decode cX6_keyAfter 86 = .ok (.lor, 1) := by decide +kernel
theorem dX6_keyAfter_87 : decode cX6_keyAfter 87 = .ok (.lstore 4, 2) := by decide +kernel
theorem dX6_keyAfter_89 : decode cX6_keyAfter 89 = .ok (.iinc 6 (-1), 3) := by decide +kernel
theorem dX6_keyAfter_92 : decode cX6_keyAfter 92 = .ok (.goto (-58), 3) := by decide +kernel
theorem dX6_keyAfter_95 : decode cX6_keyAfter 95 = .ok (.lload 4, 2) := by decide +kernel
theorem dX6_keyAfter_97 : decode cX6_keyAfter 97 = .ok (.lreturn, 1) := by decide +kernel
theorem dX6_add_0 : decode cX6_add 0 = .ok (.lload_n 1, 1) := by decide +kernel
theorem dX6_add_1 : decode cX6_add 1 = .ok (.ldc2_w 128, 3) := by decide +kernel
theorem dX6_add_4 : decode cX6_add 4 = .ok (.lmul, 1) := by decide +kernel
theorem dX6_add_5 : decode cX6_add 5 = .ok (.bipush 51, 2) := by decide +kernel
theorem dX6_add_7 : decode cX6_add 7 = .ok (.lushr, 1) := by decide +kernel
theorem dX6_add_8 : decode cX6_add 8 = .ok (.l2i, 1) := by decide +kernel
theorem dX6_add_9 : decode cX6_add 9 = .ok (.sipush 8191, 3) := by decide +kernel
theorem dX6_add_12 : decode cX6_add 12 = .ok (.iand, 1) := by decide +kernel
theorem dX6_add_13 : decode cX6_add 13 = .ok (.istore 5, 2) := by decide +kernel
theorem dX6_add_15 : decode cX6_add 15 = .ok (.iconst 0, 1) := by decide +kernel
theorem dX6_add_16 : decode cX6_add 16 = .ok (.istore 6, 2) := by decide +kernel
theorem dX6_add_18 : decode cX6_add 18 = .ok (.iload 6, 2) := by decide +kernel
theorem dX6_add_20 : decode cX6_add 20 = .ok (.sipush 8192, 3) := by decide +kernel
theorem dX6_add_23 : decode cX6_add 23 = .ok (.if_icmp .ge 50, 3) := by decide +kernel
theorem dX6_add_26 : decode cX6_add 26 = .ok (.aload_n 0, 1) := by decide +kernel
theorem dX6_add_27 : decode cX6_add 27 = .ok (.getfield 32, 3) := by decide +kernel
theorem dX6_add_30 : decode cX6_add 30 = .ok (.iload 5, 2) := by decide +kernel
theorem dX6_add_32 : decode cX6_add 32 = .ok (.iaload, 1) := by decide +kernel
theorem dX6_add_33 : decode cX6_add 33 = .ok (.ifCond .eq 40, 3) := by decide +kernel
theorem dX6_add_36 : decode cX6_add 36 = .ok (.aload_n 0, 1) := by decide +kernel
theorem dX6_add_37 : decode cX6_add 37 = .ok (.getfield 18, 3) := by decide +kernel
theorem dX6_add_40 : decode cX6_add 40 = .ok (.aload_n 0, 1) := by decide +kernel
theorem dX6_add_41 : decode cX6_add 41 = .ok (.getfield 32, 3) := by decide +kernel
theorem dX6_add_44 : decode cX6_add 44 = .ok (.iload 5, 2) := by decide +kernel
theorem dX6_add_46 : decode cX6_add 46 = .ok (.iaload, 1) := by decide +kernel
theorem dX6_add_47 : decode cX6_add 47 = .ok (.iconst 1, 1) := by decide +kernel
theorem dX6_add_48 : decode cX6_add 48 = .ok (.isub, 1) := by decide +kernel
theorem dX6_add_49 : decode cX6_add 49 = .ok (.laload, 1) := by decide +kernel
theorem dX6_add_50 : decode cX6_add 50 = .ok (.lload_n 1, 1) := by decide +kernel
theorem dX6_add_51 : decode cX6_add 51 = .ok (.lcmp, 1) := by decide +kernel
theorem dX6_add_52 : decode cX6_add 52 = .ok (.ifCond .ne 5, 3) := by decide +kernel
theorem dX6_add_55 : decode cX6_add 55 = .ok (.iconst (-1), 1) := by decide +kernel
theorem dX6_add_56 : decode cX6_add 56 = .ok (.ireturn, 1) := by decide +kernel
theorem dX6_add_57 : decode cX6_add 57 = .ok (.iload 5, 2) := by decide +kernel
theorem dX6_add_59 : decode cX6_add 59 = .ok (.iconst 1, 1) := by decide +kernel
theorem dX6_add_60 : decode cX6_add 60 = .ok (.iadd, 1) := by decide +kernel
theorem dX6_add_61 : decode cX6_add 61 = .ok (.sipush 8191, 3) := by decide +kernel
theorem dX6_add_64 : decode cX6_add 64 = .ok (.iand, 1) := by decide +kernel
theorem dX6_add_65 : decode cX6_add 65 = .ok (.istore 5, 2) := by decide +kernel
theorem dX6_add_67 : decode cX6_add 67 = .ok (.iinc 6 1, 3) := by decide +kernel
theorem dX6_add_70 : decode cX6_add 70 = .ok (.goto (-52), 3) := by decide +kernel
theorem dX6_add_73 : decode cX6_add 73 = .ok (.aload_n 0, 1) := by decide +kernel
theorem dX6_add_74 : decode cX6_add 74 = .ok (.getfield 35, 3) := by decide +kernel
theorem dX6_add_77 : decode cX6_add 77 = .ok (.sipush 3000, 3) := by decide +kernel
theorem dX6_add_80 : decode cX6_add 80 = .ok (.if_icmp .lt 10, 3) := by decide +kernel
theorem dX6_add_83 : decode cX6_add 83 = .ok (.aload_n 0, 1) := by decide +kernel
theorem dX6_add_84 : decode cX6_add 84 = .ok (.iconst 1, 1) := by decide +kernel
theorem dX6_add_85 : decode cX6_add 85 = .ok (.putfield 39, 3) := by decide +kernel
theorem dX6_add_88 : decode cX6_add 88 = .ok (.iconst (-1), 1) := by decide +kernel
theorem dX6_add_89 : decode cX6_add 89 = .ok (.ireturn, 1) := by decide +kernel
theorem dX6_add_90 : decode cX6_add 90 = .ok (.aload_n 0, 1) := by decide +kernel
theorem dX6_add_91 : decode cX6_add 91 = .ok (.getfield 18, 3) := by decide +kernel
theorem dX6_add_94 : decode cX6_add 94 = .ok (.aload_n 0, 1) := by decide +kernel
theorem dX6_add_95 : decode cX6_add 95 = .ok (.getfield 35, 3) := by decide +kernel
theorem dX6_add_98 : decode cX6_add 98 = .ok (.lload_n 1, 1) := by decide +kernel
theorem dX6_add_99 : decode cX6_add 99 = .ok (.lastore, 1) := by decide +kernel
theorem dX6_add_100 : decode cX6_add 100 = .ok (.aload_n 0, 1) := by decide +kernel
theorem dX6_add_101 : decode cX6_add 101 = .ok (.getfield 22, 3) := by decide +kernel
theorem dX6_add_104 : decode cX6_add 104 = .ok (.aload_n 0, 1) := by decide +kernel
theorem dX6_add_105 : decode cX6_add 105 = .ok (.getfield 35, 3) := by decide +kernel
theorem dX6_add_108 : decode cX6_add 108 = .ok (.iload_n 3, 1) := by decide +kernel
theorem dX6_add_109 : decode cX6_add 109 = .ok (.iastore, 1) := by decide +kernel
theorem dX6_add_110 : decode cX6_add 110 = .ok (.aload_n 0, 1) := by decide +kernel
theorem dX6_add_111 : decode cX6_add 111 = .ok (.getfield 26, 3) := by decide +kernel
theorem dX6_add_114 : decode cX6_add 114 = .ok (.aload_n 0, 1) := by decide +kernel
theorem dX6_add_115 : decode cX6_add 115 = .ok (.getfield 35, 3) := by decide +kernel
theorem dX6_add_118 : decode cX6_add 118 = .ok (.iload 4, 2) := by decide +kernel
theorem dX6_add_120 : decode cX6_add 120 = .ok (.iastore, 1) := by decide +kernel
theorem dX6_add_121 : decode cX6_add 121 = .ok (.aload_n 0, 1) := by decide +kernel
theorem dX6_add_122 : decode cX6_add 122 = .ok (.getfield 29, 3) := by decide +kernel
theorem dX6_add_125 : decode cX6_add 125 = .ok (.aload_n 0, 1) := by decide +kernel
theorem dX6_add_126 : decode cX6_add 126 = .ok (.getfield 35, 3) := by decide +kernel
theorem dX6_add_129 : decode cX6_add 129 = .ok (.aload_n 0, 1) := by decide +kernel
theorem dX6_add_130 : decode cX6_add 130 = .ok (.getfield 35, 3) := by decide +kernel
theorem dX6_add_133 : decode cX6_add 133 = .ok (.ifCond .ne 7, 3) := by decide +kernel
theorem dX6_add_136 : decode cX6_add 136 = .ok (.iconst 0, 1) := by decide +kernel
theorem dX6_add_137 : decode cX6_add 137 = .ok (.goto 11, 3) := by decide +kernel
theorem dX6_add_140 : decode cX6_add 140 = .ok (.aload_n 0, 1) := by decide +kernel
theorem dX6_add_141 : decode cX6_add 141 = .ok (.getfield 29, 3) := by decide +kernel
theorem dX6_add_144 : decode cX6_add 144 = .ok (.iload_n 3, 1) := by decide +kernel
theorem dX6_add_145 : decode cX6_add 145 = .ok (.iaload, 1) := by decide +kernel
theorem dX6_add_146 : decode cX6_add 146 = .ok (.iconst 1, 1) := by decide +kernel
theorem dX6_add_147 : decode cX6_add 147 = .ok (.iadd, 1) := by decide +kernel
theorem dX6_add_148 : decode cX6_add 148 = .ok (.iastore, 1) := by decide +kernel
theorem dX6_add_149 : decode cX6_add 149 = .ok (.aload_n 0, 1) := by decide +kernel
theorem dX6_add_150 : decode cX6_add 150 = .ok (.getfield 32, 3) := by decide +kernel
theorem dX6_add_153 : decode cX6_add 153 = .ok (.iload 5, 2) := by decide +kernel
theorem dX6_add_155 : decode cX6_add 155 = .ok (.aload_n 0, 1) := by decide +kernel
theorem dX6_add_156 : decode cX6_add 156 = .ok (.getfield 35, 3) := by decide +kernel
theorem dX6_add_159 : decode cX6_add 159 = .ok (.iconst 1, 1) := by decide +kernel
theorem dX6_add_160 : decode cX6_add 160 = .ok (.iadd, 1) := by decide +kernel
theorem dX6_add_161 : decode cX6_add 161 = .ok (.iastore, 1) := by decide +kernel
theorem dX6_add_162 : decode cX6_add 162 = .ok (.aload_n 0, 1) := by decide +kernel
theorem dX6_add_163 : decode cX6_add 163 = .ok (.dup, 1) := by decide +kernel
theorem dX6_add_164 : decode cX6_add 164 = .ok (.getfield 35, 3) := by decide +kernel
theorem dX6_add_167 : decode cX6_add 167 = .ok (.iconst 1, 1) := by decide +kernel
theorem dX6_add_168 : decode cX6_add 168 = .ok (.iadd, 1) := by decide +kernel
theorem dX6_add_169 : decode cX6_add 169 = .ok (.putfield 35, 3) := by decide +kernel
theorem dX6_add_172 : decode cX6_add 172 = .ok (.aload_n 0, 1) := by decide +kernel
theorem dX6_add_173 : decode cX6_add 173 = .ok (.getfield 35, 3) := by decide +kernel
theorem dX6_add_176 : decode cX6_add 176 = .ok (.iconst 1, 1) := by decide +kernel
theorem dX6_add_177 : decode cX6_add 177 = .ok (.isub, 1) := by decide +kernel
theorem dX6_add_178 : decode cX6_add 178 = .ok (.ireturn, 1) := by decide +kernel
theorem dX6_isWanted_0 : decode cX6_isWanted 0 = .ok (.aload_n 0, 1) := by decide +kernel
theorem dX6_isWanted_1 : decode cX6_isWanted 1 = .ok (.getfield 18, 3) := by decide +kernel
theorem dX6_isWanted_4 : decode cX6_isWanted 4 = .ok (.iload_n 1, 1) := by decide +kernel
theorem dX6_isWanted_5 : decode cX6_isWanted 5 = .ok (.laload, 1) := by decide +kernel
theorem dX6_isWanted_6 : decode cX6_isWanted 6 = .ok (.lstore_n 2, 1) := by decide +kernel
theorem dX6_isWanted_7 : decode cX6_isWanted 7 = .ok (.aload_n 0, 1) := by decide +kernel
theorem dX6_isWanted_8 : decode cX6_isWanted 8 = .ok (.getfield 43, 3) := by decide +kernel
theorem dX6_isWanted_11 : decode cX6_isWanted 11 = .ok (.iconst 1, 1) := by decide +kernel
theorem dX6_isWanted_12 : decode cX6_isWanted 12 = .ok (.if_icmp .ne 24, 3) := by decide +kernel
theorem dX6_isWanted_15 : decode cX6_isWanted 15 = .ok (.aload_n 0, 1) := by decide +kernel
theorem dX6_isWanted_16 : decode cX6_isWanted 16 = .ok (.getfield 46, 3) := by decide +kernel
theorem dX6_isWanted_19 : decode cX6_isWanted 19 = .ok (.lload_n 2, 1) := by decide +kernel
theorem dX6_isWanted_20 : decode cX6_isWanted 20 = .ok (.iconst (-1), 1) := by decide +kernel
theorem dX6_isWanted_21 : decode cX6_isWanted 21 = .ok (.invokestatic 130, 3) := by decide +kernel
theorem dX6_isWanted_24 : decode cX6_isWanted 24 = .ok (.iconst (-1), 1) := by decide +kernel
theorem dX6_isWanted_25 : decode cX6_isWanted 25 = .ok (.ixor, 1) := by decide +kernel
theorem dX6_isWanted_26 : decode cX6_isWanted 26 = .ok (.iand, 1) := by decide +kernel
theorem dX6_isWanted_27 : decode cX6_isWanted 27 = .ok (.ifCond .ne 7, 3) := by decide +kernel
theorem dX6_isWanted_30 : decode cX6_isWanted 30 = .ok (.iconst 1, 1) := by decide +kernel
theorem dX6_isWanted_31 : decode cX6_isWanted 31 = .ok (.goto 4, 3) := by decide +kernel
theorem dX6_isWanted_34 : decode cX6_isWanted 34 = .ok (.iconst 0, 1) := by decide +kernel
theorem dX6_isWanted_35 : decode cX6_isWanted 35 = .ok (.ireturn, 1) := by decide +kernel
theorem dX6_isWanted_36 : decode cX6_isWanted 36 = .ok (.aload_n 0, 1) := by decide +kernel
theorem dX6_isWanted_37 : decode cX6_isWanted 37 = .ok (.getfield 43, 3) := by decide +kernel
theorem dX6_isWanted_40 : decode cX6_isWanted 40 = .ok (.iconst 2, 1) := by decide +kernel
theorem dX6_isWanted_41 : decode cX6_isWanted 41 = .ok (.if_icmp .ne 33, 3) := by decide +kernel
theorem dX6_isWanted_44 : decode cX6_isWanted 44 = .ok (.lload_n 2, 1) := by decide +kernel
theorem dX6_isWanted_45 : decode cX6_isWanted 45 = .ok (.invokestatic 119, 3) := by decide +kernel
theorem dX6_isWanted_48 : decode cX6_isWanted 48 = .ok (.aload_n 0, 1) := by decide +kernel
theorem dX6_isWanted_49 : decode cX6_isWanted 49 = .ok (.getfield 49, 3) := by decide +kernel
theorem dX6_isWanted_52 : decode cX6_isWanted 52 = .ok (.if_icmp .ne 22, 3) := by decide +kernel
theorem dX6_isWanted_55 : decode cX6_isWanted 55 = .ok (.lload_n 2, 1) := by decide +kernel
theorem dX6_isWanted_56 : decode cX6_isWanted 56 = .ok (.aload_n 0, 1) := by decide +kernel
theorem dX6_isWanted_57 : decode cX6_isWanted 57 = .ok (.getfield 49, 3) := by decide +kernel
theorem dX6_isWanted_60 : decode cX6_isWanted 60 = .ok (.invokestatic 130, 3) := by decide +kernel
theorem dX6_isWanted_63 : decode cX6_isWanted 63 = .ok (.aload_n 0, 1) := by decide +kernel
theorem dX6_isWanted_64 : decode cX6_isWanted 64 = .ok (.getfield 46, 3) := by decide +kernel
theorem dX6_isWanted_67 : decode cX6_isWanted 67 = .ok (.if_icmp .ne 7, 3) := by decide +kernel
theorem dX6_isWanted_70 : decode cX6_isWanted 70 = .ok (.iconst 1, 1) := by decide +kernel
theorem dX6_isWanted_71 : decode cX6_isWanted 71 = .ok (.goto 4, 3) := by decide +kernel
theorem dX6_isWanted_74 : decode cX6_isWanted 74 = .ok (.iconst 0, 1) := by decide +kernel
theorem dX6_isWanted_75 : decode cX6_isWanted 75 = .ok (.ireturn, 1) := by decide +kernel
theorem dX6_onFloor_0 : decode cX6_onFloor 0 = .ok (.iconst 0, 1) := by decide +kernel
theorem dX6_onFloor_1 : decode cX6_onFloor 1 = .ok (.istore_n 3, 1) := by decide +kernel
theorem dX6_onFloor_2 : decode cX6_onFloor 2 = .ok (.iconst 0, 1) := by decide +kernel
theorem dX6_onFloor_3 : decode cX6_onFloor 3 = .ok (.istore 4, 2) := by decide +kernel
theorem dX6_onFloor_5 : decode cX6_onFloor 5 = .ok (.iload 4, 2) := by decide +kernel
theorem dX6_onFloor_7 : decode cX6_onFloor 7 = .ok (.bipush 10, 2) := by decide +kernel
theorem dX6_onFloor_9 : decode cX6_onFloor 9 = .ok (.if_icmp .ge 30, 3) := by decide +kernel
theorem dX6_onFloor_12 : decode cX6_onFloor 12 = .ok (.iload_n 3, 1) := by decide +kernel
theorem dX6_onFloor_13 : decode cX6_onFloor 13 = .ok (.lload_n 0, 1) := by decide +kernel
theorem dX6_onFloor_14 : decode cX6_onFloor 14 = .ok (.iload 4, 2) := by decide +kernel
theorem dX6_onFloor_16 : decode cX6_onFloor 16 = .ok (.invokestatic 115, 3) := by decide +kernel
theorem dX6_onFloor_19 : decode cX6_onFloor 19 = .ok (.iload_n 2, 1) := by decide +kernel
theorem dX6_onFloor_20 : decode cX6_onFloor 20 = .ok (.if_icmp .ne 10, 3) := by decide +kernel
theorem dX6_onFloor_23 : decode cX6_onFloor 23 = .ok (.iconst 1, 1) := by decide +kernel
theorem dX6_onFloor_24 : decode cX6_onFloor 24 = .ok (.iload 4, 2) := by decide +kernel
theorem dX6_onFloor_26 : decode cX6_onFloor 26 = .ok (.ishl, 1) := by decide +kernel
theorem dX6_onFloor_27 : decode cX6_onFloor 27 = .ok (.goto 4, 3) := by decide +kernel
theorem dX6_onFloor_30 : decode cX6_onFloor 30 = .ok (.iconst 0, 1) := by decide +kernel
theorem dX6_onFloor_31 : decode cX6_onFloor 31 = .ok (.ior, 1) := by decide +kernel
theorem dX6_onFloor_32 : decode cX6_onFloor 32 = .ok (.istore_n 3, 1) := by decide +kernel
theorem dX6_onFloor_33 : decode cX6_onFloor 33 = .ok (.iinc 4 1, 3) := by decide +kernel
theorem dX6_onFloor_36 : decode cX6_onFloor 36 = .ok (.goto (-31), 3) := by decide +kernel
theorem dX6_onFloor_39 : decode cX6_onFloor 39 = .ok (.iload_n 3, 1) := by decide +kernel
theorem dX6_onFloor_40 : decode cX6_onFloor 40 = .ok (.ireturn, 1) := by decide +kernel
theorem dX6_everHome_0 : decode cX6_everHome 0 = .ok (.iconst 0, 1) := by decide +kernel
theorem dX6_everHome_1 : decode cX6_everHome 1 = .ok (.istore_n 1, 1) := by decide +kernel
theorem dX6_everHome_2 : decode cX6_everHome 2 = .ok (.iconst 0, 1) := by decide +kernel
theorem dX6_everHome_3 : decode cX6_everHome 3 = .ok (.istore_n 2, 1) := by decide +kernel
theorem dX6_everHome_4 : decode cX6_everHome 4 = .ok (.iload_n 2, 1) := by decide +kernel
theorem dX6_everHome_5 : decode cX6_everHome 5 = .ok (.aload_n 0, 1) := by decide +kernel
theorem dX6_everHome_6 : decode cX6_everHome 6 = .ok (.getfield 35, 3) := by decide +kernel
theorem dX6_everHome_9 : decode cX6_everHome 9 = .ok (.if_icmp .ge 22, 3) := by decide +kernel
theorem dX6_everHome_12 : decode cX6_everHome 12 = .ok (.iload_n 1, 1) := by decide +kernel
theorem dX6_everHome_13 : decode cX6_everHome 13 = .ok (.aload_n 0, 1) := by decide +kernel
theorem dX6_everHome_14 : decode cX6_everHome 14 = .ok (.getfield 18, 3) := by decide +kernel
theorem dX6_everHome_17 : decode cX6_everHome 17 = .ok (.iload_n 2, 1) := by decide +kernel
theorem dX6_everHome_18 : decode cX6_everHome 18 = .ok (.laload, 1) := by decide +kernel
theorem dX6_everHome_19 : decode cX6_everHome 19 = .ok (.iconst (-1), 1) := by decide +kernel
theorem dX6_everHome_20 : decode cX6_everHome 20 = .ok (.invokestatic 130, 3) := by decide +kernel
theorem dX6_everHome_23 : decode cX6_everHome 23 = .ok (.ior, 1) := by decide +kernel
theorem dX6_everHome_24 : decode cX6_everHome 24 = .ok (.istore_n 1, 1) := by decide +kernel
theorem dX6_everHome_25 : decode cX6_everHome 25 = .ok (.iinc 2 1, 3) := by decide +kernel
theorem dX6_everHome_28 : decode cX6_everHome 28 = .ok (.goto (-24), 3) := by decide +kernel
theorem dX6_everHome_31 : decode cX6_everHome 31 = .ok (.iload_n 1, 1) := by decide +kernel
theorem dX6_everHome_32 : decode cX6_everHome 32 = .ok (.ireturn, 1) := by decide +kernel
theorem dX6_everStopped_0 : decode cX6_everStopped 0 = .ok (.iconst 0, 1) := by decide +kernel
theorem dX6_everStopped_1 : decode cX6_everStopped 1 = .ok (.istore_n 1, 1) := by decide +kernel
theorem dX6_everStopped_2 : decode cX6_everStopped 2 = .ok (.iconst 0, 1) := by decide +kernel
theorem dX6_everStopped_3 : decode cX6_everStopped 3 = .ok (.istore_n 2, 1) := by decide +kernel
theorem dX6_everStopped_4 : decode cX6_everStopped 4 = .ok (.iload_n 2, 1) := by decide +kernel
theorem dX6_everStopped_5 : decode cX6_everStopped 5 = .ok (.aload_n 0, 1) := by decide +kernel
theorem dX6_everStopped_6 : decode cX6_everStopped 6 = .ok (.getfield 35, 3) := by decide +kernel
theorem dX6_everStopped_9 : decode cX6_everStopped 9 = .ok (.if_icmp .ge 23, 3) := by decide +kernel
theorem dX6_everStopped_12 : decode cX6_everStopped 12 = .ok (.iload_n 1, 1) := by decide +kernel
theorem dX6_everStopped_13 : decode cX6_everStopped 13 = .ok (.iconst 1, 1) := by decide +kernel
theorem dX6_everStopped_14 : decode cX6_everStopped 14 = .ok (.aload_n 0, 1) := by decide +kernel
theorem dX6_everStopped_15 : decode cX6_everStopped 15 = .ok (.getfield 18, 3) := by decide +kernel
theorem dX6_everStopped_18 : decode cX6_everStopped 18 = .ok (.iload_n 2, 1) := by decide +kernel
theorem dX6_everStopped_19 : decode cX6_everStopped 19 = .ok (.laload, 1) := by decide +kernel
theorem dX6_everStopped_20 : decode cX6_everStopped 20 = .ok (.invokestatic 119, 3) := by decide +kernel
theorem dX6_everStopped_23 : decode cX6_everStopped 23 = .ok (.ishl, 1) := by decide +kernel
theorem dX6_everStopped_24 : decode cX6_everStopped 24 = .ok (.ior, 1) := by decide +kernel
theorem dX6_everStopped_25 : decode cX6_everStopped 25 = .ok (.istore_n 1, 1) := by decide +kernel
theorem dX6_everStopped_26 : decode cX6_everStopped 26 = .ok (.iinc 2 1, 3) := by decide +kernel
theorem dX6_everStopped_29 : decode cX6_everStopped 29 = .ok (.goto (-25), 3) := by decide +kernel
theorem dX6_everStopped_32 : decode cX6_everStopped 32 = .ok (.iload_n 1, 1) := by decide +kernel
theorem dX6_everStopped_33 : decode cX6_everStopped 33 = .ok (.ireturn, 1) := by decide +kernel
