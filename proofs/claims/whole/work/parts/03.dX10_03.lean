theorem dX10_bets_76 : decode cX10_bets 76 = .ok (.iaload, 1) := by decide +kernel
theorem dX10_bets_77 : decode cX10_bets 77 = .ok (.iastore, 1) := by decide +kernel
theorem dX10_bets_78 : decode cX10_bets 78 = .ok (.aload_n 0, 1) := by decide +kernel
theorem dX10_bets_79 : decode cX10_bets 79 = .ok (.iload_n 1, 1) := by decide +kernel
theorem dX10_bets_80 : decode cX10_bets 80 = .ok (.iconst 1, 1) := by decide +kernel
theorem dX10_bets_81 : decode cX10_bets 81 = .ok (.iadd, 1) := by decide +kernel
theorem dX10_bets_82 : decode cX10_bets 82 = .ok (.lload_n 2, 1) := by decide +kernel
theorem dX10_bets_83 : decode cX10_bets 83 = .ok (.ldc2_w 234, 3) := by decide +kernel
theorem dX10_bets_86 : decode cX10_bets 86 = .ok (.ldiv, 1) := by decide +kernel
theorem dX10_bets_87 : decode cX10_bets 87 = .ok (.aload_n 0, 1) := by decide +kernel
theorem dX10_bets_88 : decode cX10_bets 88 = .ok (.getfield 138, 3) := by decide +kernel
theorem dX10_bets_91 : decode cX10_bets 91 = .ok (.iload_n 1, 1) := by decide +kernel
theorem dX10_bets_92 : decode cX10_bets 92 = .ok (.iaload, 1) := by decide +kernel
theorem dX10_bets_93 : decode cX10_bets 93 = .ok (.i2l, 1) := by decide +kernel
theorem dX10_bets_94 : decode cX10_bets 94 = .ok (.lmul, 1) := by decide +kernel
theorem dX10_bets_95 : decode cX10_bets 95 = .ok (.invokevirtual 442, 3) := by decide +kernel
theorem dX10_bets_98 : decode cX10_bets 98 = .ok (.aload_n 0, 1) := by decide +kernel
theorem dX10_bets_99 : decode cX10_bets 99 = .ok (.getfield 313, 3) := by decide +kernel
theorem dX10_bets_102 : decode cX10_bets 102 = .ok (.bipush 10, 2) := by decide +kernel
theorem dX10_bets_104 : decode cX10_bets 104 = .ok (.iload_n 1, 1) := by decide +kernel
theorem dX10_bets_105 : decode cX10_bets 105 = .ok (.iadd, 1) := by decide +kernel
theorem dX10_bets_106 : decode cX10_bets 106 = .ok (.aload_n 0, 1) := by decide +kernel
theorem dX10_bets_107 : decode cX10_bets 107 = .ok (.getfield 79, 3) := by decide +kernel
theorem dX10_bets_110 : decode cX10_bets 110 = .ok (.bipush 10, 2) := by decide +kernel
theorem dX10_bets_112 : decode cX10_bets 112 = .ok (.iload_n 1, 1) := by decide +kernel
theorem dX10_bets_113 : decode cX10_bets 113 = .ok (.iadd, 1) := by decide +kernel
theorem dX10_bets_114 : decode cX10_bets 114 = .ok (.iaload, 1) := by decide +kernel
theorem dX10_bets_115 : decode cX10_bets 115 = .ok (.iastore, 1) := by decide +kernel
theorem dX10_bets_116 : decode cX10_bets 116 = .ok (.aload_n 0, 1) := by decide +kernel
theorem dX10_bets_117 : decode cX10_bets 117 = .ok (.iload_n 1, 1) := by decide +kernel
theorem dX10_bets_118 : decode cX10_bets 118 = .ok (.iconst 1, 1) := by decide +kernel
theorem dX10_bets_119 : decode cX10_bets 119 = .ok (.iadd, 1) := by decide +kernel
theorem dX10_bets_120 : decode cX10_bets 120 = .ok (.lload_n 2, 1) := by decide +kernel
theorem dX10_bets_121 : decode cX10_bets 121 = .ok (.ldc2_w 234, 3) := by decide +kernel
theorem dX10_bets_124 : decode cX10_bets 124 = .ok (.ldiv, 1) := by decide +kernel
theorem dX10_bets_125 : decode cX10_bets 125 = .ok (.bipush 10, 2) := by decide +kernel
theorem dX10_bets_127 : decode cX10_bets 127 = .ok (.aload_n 0, 1) := by decide +kernel
theorem dX10_bets_128 : decode cX10_bets 128 = .ok (.getfield 138, 3) := by decide +kernel
theorem dX10_bets_131 : decode cX10_bets 131 = .ok (.iload_n 1, 1) := by decide +kernel
theorem dX10_bets_132 : decode cX10_bets 132 = .ok (.iaload, 1) := by decide +kernel
theorem dX10_bets_133 : decode cX10_bets 133 = .ok (.isub, 1) := by decide +kernel
theorem dX10_bets_134 : decode cX10_bets 134 = .ok (.i2l, 1) := by decide +kernel
theorem dX10_bets_135 : decode cX10_bets 135 = .ok (.lmul, 1) := by decide +kernel
theorem dX10_bets_136 : decode cX10_bets 136 = .ok (.invokevirtual 442, 3) := by decide +kernel
theorem dX10_bets_139 : decode cX10_bets 139 = .ok (.return_, 1) := by decide +kernel
theorem dX10_betsAll_0 : decode cX10_betsAll 0 = .ok (.iconst 0, 1) := by decide +kernel
theorem dX10_betsAll_1 : decode cX10_betsAll 1 = .ok (.istore_n 1, 1) := by decide +kernel
theorem dX10_betsAll_2 : decode cX10_betsAll 2 = .ok (.iload_n 1, 1) := by decide +kernel
theorem dX10_betsAll_3 : decode cX10_betsAll 3 = .ok (.bipush 9, 2) := by decide +kernel
theorem dX10_betsAll_5 : decode cX10_betsAll 5 = .ok (.if_icmp .ge 16, 3) := by decide +kernel
theorem dX10_betsAll_8 : decode cX10_betsAll 8 = .ok (.aload_n 0, 1) := by decide +kernel
theorem dX10_betsAll_9 : decode cX10_betsAll 9 = .ok (.getfield 439, 3) := by decide +kernel
theorem dX10_betsAll_12 : decode cX10_betsAll 12 = .ok (.iload_n 1, 1) := by decide +kernel
theorem dX10_betsAll_13 : decode cX10_betsAll 13 = .ok (.lconst 0, 1) := by decide +kernel
theorem dX10_betsAll_14 : decode cX10_betsAll 14 = .ok (.lastore, 1) := by decide +kernel
theorem dX10_betsAll_15 : decode cX10_betsAll 15 = .ok (.iinc 1 1, 3) := by decide +kernel
theorem dX10_betsAll_18 : decode cX10_betsAll 18 = .ok (.goto (-16), 3) := by decide +kernel
theorem dX10_betsAll_21 : decode cX10_betsAll 21 = .ok (.aload_n 0, 1) := by decide +kernel
theorem dX10_betsAll_22 : decode cX10_betsAll 22 = .ok (.getfield 79, 3) := by decide +kernel
theorem dX10_betsAll_25 : decode cX10_betsAll 25 = .ok (.aload_n 0, 1) := by decide +kernel
theorem dX10_betsAll_26 : decode cX10_betsAll 26 = .ok (.getfield 313, 3) := by decide +kernel
theorem dX10_betsAll_29 : decode cX10_betsAll 29 = .ok (.invokestatic 316, 3) := by decide +kernel
theorem dX10_betsAll_32 : decode cX10_betsAll 32 = .ok (.aload_n 0, 1) := by decide +kernel
theorem dX10_betsAll_33 : decode cX10_betsAll 33 = .ok (.iconst 0, 1) := by decide +kernel
theorem dX10_betsAll_34 : decode cX10_betsAll 34 = .ok (.ldc2_w 446, 3) := by decide +kernel
theorem dX10_betsAll_37 : decode cX10_betsAll 37 = .ok (.invokevirtual 442, 3) := by decide +kernel
theorem dX10_betsAll_40 : decode cX10_betsAll 40 = .ok (.return_, 1) := by decide +kernel
theorem dX10_odds_0 : decode cX10_odds 0 = .ok (.aload_n 0, 1) := by decide +kernel
theorem dX10_odds_1 : decode cX10_odds 1 = .ok (.iconst 0, 1) := by decide +kernel
theorem dX10_odds_2 : decode cX10_odds 2 = .ok (.putfield 3, 3) := by decide +kernel
theorem dX10_odds_5 : decode cX10_odds 5 = .ok (.aload_n 0, 1) := by decide +kernel
theorem dX10_odds_6 : decode cX10_odds 6 = .ok (.iload_n 1, 1) := by decide +kernel
theorem dX10_odds_7 : decode cX10_odds 7 = .ok (.invokevirtual 95, 3) := by decide +kernel
theorem dX10_odds_10 : decode cX10_odds 10 = .ok (.ifCond .ne 5, 3) := by decide +kernel
theorem dX10_odds_13 : decode cX10_odds 13 = .ok (.iconst (-1), 1) := by decide +kernel
theorem dX10_odds_14 : decode cX10_odds 14 = .ok (.ireturn, 1) := by decide +kernel
theorem dX10_odds_15 : decode cX10_odds 15 = .ok (.aload_n 0, 1) := by decide +kernel
theorem dX10_odds_16 : decode cX10_odds 16 = .ok (.invokevirtual 448, 3) := by decide +kernel
theorem dX10_odds_19 : decode cX10_odds 19 = .ok (.aload_n 0, 1) := by decide +kernel
theorem dX10_odds_20 : decode cX10_odds 20 = .ok (.iconst 0, 1) := by decide +kernel
theorem dX10_odds_21 : decode cX10_odds 21 = .ok (.putfield 15, 3) := by decide +kernel
theorem dX10_odds_24 : decode cX10_odds 24 = .ok (.aload_n 0, 1) := by decide +kernel
theorem dX10_odds_25 : decode cX10_odds 25 = .ok (.aload_n 0, 1) := by decide +kernel
theorem dX10_odds_26 : decode cX10_odds 26 = .ok (.getfield 439, 3) := by decide +kernel
theorem dX10_odds_29 : decode cX10_odds 29 = .ok (.iload_n 1, 1) := by decide +kernel
theorem dX10_odds_30 : decode cX10_odds 30 = .ok (.laload, 1) := by decide +kernel
theorem dX10_odds_31 : decode cX10_odds 31 = .ok (.ldc2_w 446, 3) := by decide +kernel
theorem dX10_odds_34 : decode cX10_odds 34 = .ok (.invokevirtual 451, 3) := by decide +kernel
theorem dX10_odds_37 : decode cX10_odds 37 = .ok (.iconst 0, 1) := by decide +kernel
theorem dX10_odds_38 : decode cX10_odds 38 = .ok (.ireturn, 1) := by decide +kernel
theorem dX10_likely_0 : decode cX10_likely 0 = .ok (.aload_n 0, 1) := by decide +kernel
theorem dX10_likely_1 : decode cX10_likely 1 = .ok (.iconst 0, 1) := by decide +kernel
theorem dX10_likely_2 : decode cX10_likely 2 = .ok (.putfield 3, 3) := by decide +kernel
theorem dX10_likely_5 : decode cX10_likely 5 = .ok (.aload_n 0, 1) := by decide +kernel
theorem dX10_likely_6 : decode cX10_likely 6 = .ok (.invokevirtual 448, 3) := by decide +kernel
theorem dX10_likely_9 : decode cX10_likely 9 = .ok (.iconst 0, 1) := by decide +kernel
theorem dX10_likely_10 : decode cX10_likely 10 = .ok (.istore_n 1, 1) := by decide +kernel
theorem dX10_likely_11 : decode cX10_likely 11 = .ok (.iconst 1, 1) := by decide +kernel
theorem dX10_likely_12 : decode cX10_likely 12 = .ok (.istore_n 2, 1) := by decide +kernel
theorem dX10_likely_13 : decode cX10_likely 13 = .ok (.iload_n 2, 1) := by decide +kernel
theorem dX10_likely_14 : decode cX10_likely 14 = .ok (.aload_n 0, 1) := by decide +kernel
theorem dX10_likely_15 : decode cX10_likely 15 = .ok (.getfield 22, 3) := by decide +kernel
theorem dX10_likely_18 : decode cX10_likely 18 = .ok (.if_icmp .ge 31, 3) := by decide +kernel
theorem dX10_likely_21 : decode cX10_likely 21 = .ok (.aload_n 0, 1) := by decide +kernel
theorem dX10_likely_22 : decode cX10_likely 22 = .ok (.getfield 439, 3) := by decide +kernel
theorem dX10_likely_25 : decode cX10_likely 25 = .ok (.iload_n 2, 1) := by decide +kernel
theorem dX10_likely_26 : decode cX10_likely 26 = .ok (.laload, 1) := by decide +kernel
theorem dX10_likely_27 : decode cX10_likely 27 = .ok (.aload_n 0, 1) := by decide +kernel
theorem dX10_likely_28 : decode cX10_likely 28 = .ok (.getfield 439, 3) := by decide +kernel
theorem dX10_likely_31 : decode cX10_likely 31 = .ok (.iload_n 1, 1) := by decide +kernel
theorem dX10_likely_32 : decode cX10_likely 32 = .ok (.laload, 1) := by decide +kernel
theorem dX10_likely_33 : decode cX10_likely 33 = .ok (.lcmp, 1) := by decide +kernel
theorem dX10_likely_34 : decode cX10_likely 34 = .ok (.ifCond .le 7, 3) := by decide +kernel
theorem dX10_likely_37 : decode cX10_likely 37 = .ok (.iload_n 2, 1) := by decide +kernel
theorem dX10_likely_38 : decode cX10_likely 38 = .ok (.goto 4, 3) := by decide +kernel
theorem dX10_likely_41 : decode cX10_likely 41 = .ok (.iload_n 1, 1) := by decide +kernel
theorem dX10_likely_42 : decode cX10_likely 42 = .ok (.istore_n 1, 1) := by decide +kernel
theorem dX10_likely_43 : decode cX10_likely 43 = .ok (.iinc 2 1, 3) := by decide +kernel
theorem dX10_likely_46 : decode cX10_likely 46 = .ok (.goto (-33), 3) := by decide +kernel
theorem dX10_likely_49 : decode cX10_likely 49 = .ok (.aload_n 0, 1) := by decide +kernel
theorem dX10_likely_50 : decode cX10_likely 50 = .ok (.iconst 0, 1) := by decide +kernel
theorem dX10_likely_51 : decode cX10_likely 51 = .ok (.putfield 15, 3) := by decide +kernel
theorem dX10_likely_54 : decode cX10_likely 54 = .ok (.aload_n 0, 1) := by decide +kernel
theorem dX10_likely_55 : decode cX10_likely 55 = .ok (.aload_n 0, 1) := by decide +kernel
theorem dX10_likely_56 : decode cX10_likely 56 = .ok (.getfield 439, 3) := by decide +kernel
theorem dX10_likely_59 : decode cX10_likely 59 = .ok (.iload_n 1, 1) := by decide +kernel
theorem dX10_likely_60 : decode cX10_likely 60 = .ok (.laload, 1) := by decide +kernel
theorem dX10_likely_61 : decode cX10_likely 61 = .ok (.ldc2_w 446, 3) := by decide +kernel
theorem dX10_likely_64 : decode cX10_likely 64 = .ok (.invokevirtual 451, 3) := by decide +kernel
theorem dX10_likely_67 : decode cX10_likely 67 = .ok (.iload_n 1, 1) := by decide +kernel
theorem dX10_likely_68 : decode cX10_likely 68 = .ok (.ireturn, 1) := by decide +kernel
theorem dX10_rideAlone_0 : decode cX10_rideAlone 0 = .ok (.aload_n 0, 1) := by decide +kernel
theorem dX10_rideAlone_1 : decode cX10_rideAlone 1 = .ok (.getfield 79, 3) := by decide +kernel
theorem dX10_rideAlone_4 : decode cX10_rideAlone 4 = .ok (.aload_n 0, 1) := by decide +kernel
theorem dX10_rideAlone_5 : decode cX10_rideAlone 5 = .ok (.getfield 313, 3) := by decide +kernel
theorem dX10_rideAlone_8 : decode cX10_rideAlone 8 = .ok (.invokestatic 316, 3) := by decide +kernel
theorem dX10_rideAlone_11 : decode cX10_rideAlone 11 = .ok (.iconst 0, 1) := by decide +kernel
theorem dX10_rideAlone_12 : decode cX10_rideAlone 12 = .ok (.istore_n 3, 1) := by decide +kernel
theorem dX10_rideAlone_13 : decode cX10_rideAlone 13 = .ok (.iload_n 3, 1) := by decide +kernel
theorem dX10_rideAlone_14 : decode cX10_rideAlone 14 = .ok (.aload_n 0, 1) := by decide +kernel
theorem dX10_rideAlone_15 : decode cX10_rideAlone 15 = .ok (.getfield 29, 3) := by decide +kernel
theorem dX10_rideAlone_18 : decode cX10_rideAlone 18 = .ok (.if_icmp .ge 38, 3) := by decide +kernel
theorem dX10_rideAlone_21 : decode cX10_rideAlone 21 = .ok (.aload_n 0, 1) := by decide +kernel
theorem dX10_rideAlone_22 : decode cX10_rideAlone 22 = .ok (.getfield 313, 3) := by decide +kernel
theorem dX10_rideAlone_25 : decode cX10_rideAlone 25 = .ok (.iload_n 3, 1) := by decide +kernel
theorem dX10_rideAlone_26 : decode cX10_rideAlone 26 = .ok (.iload_n 2, 1) := by decide +kernel
theorem dX10_rideAlone_27 : decode cX10_rideAlone 27 = .ok (.iload_n 1, 1) := by decide +kernel
theorem dX10_rideAlone_28 : decode cX10_rideAlone 28 = .ok (.iconst (-1), 1) := by decide +kernel
theorem dX10_rideAlone_29 : decode cX10_rideAlone 29 = .ok (.ixor, 1) := by decide +kernel
theorem dX10_rideAlone_30 : decode cX10_rideAlone 30 = .ok (.iand, 1) := by decide +kernel
theorem dX10_rideAlone_31 : decode cX10_rideAlone 31 = .ok (.iload_n 3, 1) := by decide +kernel
theorem dX10_rideAlone_32 : decode cX10_rideAlone 32 = .ok (.invokestatic 195, 3) := by decide +kernel
theorem dX10_rideAlone_35 : decode cX10_rideAlone 35 = .ok (.ifCond .eq 8, 3) := by decide +kernel
theorem dX10_rideAlone_38 : decode cX10_rideAlone 38 = .ok (.bipush 9, 2) := by decide +kernel
theorem dX10_rideAlone_40 : decode cX10_rideAlone 40 = .ok (.goto 9, 3) := by decide +kernel
theorem dX10_rideAlone_43 : decode cX10_rideAlone 43 = .ok (.aload_n 0, 1) := by decide +kernel
theorem dX10_rideAlone_44 : decode cX10_rideAlone 44 = .ok (.getfield 313, 3) := by decide +kernel
theorem dX10_rideAlone_47 : decode cX10_rideAlone 47 = .ok (.iload_n 3, 1) := by decide +kernel
theorem dX10_rideAlone_48 : decode cX10_rideAlone 48 = .ok (.iaload, 1) := by decide +kernel
theorem dX10_rideAlone_49 : decode cX10_rideAlone 49 = .ok (.iastore, 1) := by decide +kernel
theorem dX10_rideAlone_50 : decode cX10_rideAlone 50 = .ok (.iinc 3 1, 3) := by decide +kernel
theorem dX10_rideAlone_53 : decode cX10_rideAlone 53 = .ok (.goto (-40), 3) := by decide +kernel
theorem dX10_rideAlone_56 : decode cX10_rideAlone 56 = .ok (.aload_n 0, 1) := by decide +kernel
theorem dX10_rideAlone_57 : decode cX10_rideAlone 57 = .ok (.aload_n 0, 1) := by decide +kernel
theorem dX10_rideAlone_58 : decode cX10_rideAlone 58 = .ok (.getfield 313, 3) := by decide +kernel
theorem dX10_rideAlone_61 : decode cX10_rideAlone 61 = .ok (.iload_n 1, 1) := by decide +kernel
theorem dX10_rideAlone_62 : decode cX10_rideAlone 62 = .ok (.invokevirtual 261, 3) := by decide +kernel
theorem dX10_rideAlone_65 : decode cX10_rideAlone 65 = .ok (.invokestatic 175, 3) := by decide +kernel
theorem dX10_rideAlone_68 : decode cX10_rideAlone 68 = .ok (.ireturn, 1) := by decide +kernel
theorem dX10_split_0 : decode cX10_split 0 = .ok (.aload_n 0, 1) := by decide +kernel
theorem dX10_split_1 : decode cX10_split 1 = .ok (.iconst 0, 1) := by decide +kernel
theorem dX10_split_2 : decode cX10_split 2 = .ok (.putfield 3, 3) := by decide +kernel
theorem dX10_split_5 : decode cX10_split 5 = .ok (.aload_n 0, 1) := by decide +kernel
theorem dX10_split_6 : decode cX10_split 6 = .ok (.aload_n 0, 1) := by decide +kernel
theorem dX10_split_7 : decode cX10_split 7 = .ok (.getfield 79, 3) := by decide +kernel
theorem dX10_split_10 : decode cX10_split 10 = .ok (.invokevirtual 295, 3) := by decide +kernel
theorem dX10_split_13 : decode cX10_split 13 = .ok (.istore_n 1, 1) := by decide +kernel
theorem dX10_split_14 : decode cX10_split 14 = .ok (.iconst (-1), 1) := by decide +kernel
theorem dX10_split_15 : decode cX10_split 15 = .ok (.istore_n 2, 1) := by decide +kernel
theorem dX10_split_16 : decode cX10_split 16 = .ok (.iconst 0, 1) := by decide +kernel
theorem dX10_split_17 : decode cX10_split 17 = .ok (.istore_n 3, 1) := by decide +kernel
theorem dX10_split_18 : decode cX10_split 18 = .ok (.iconst 0, 1) := by decide +kernel
theorem dX10_split_19 : decode cX10_split 19 = .ok (.istore 4, 2) := by decide +kernel
theorem dX10_split_21 : decode cX10_split 21 = .ok (.iconst 0, 1) := by decide +kernel
theorem dX10_split_22 : decode cX10_split 22 = .ok (.istore 5, 2) := by decide +kernel
theorem dX10_split_24 : decode cX10_split 24 = .ok (.iload 5, 2) := by decide +kernel
theorem dX10_split_26 : decode cX10_split 26 = .ok (.iconst 1, 1) := by decide +kernel
theorem dX10_split_27 : decode cX10_split 27 = .ok (.aload_n 0, 1) := by decide +kernel
theorem dX10_split_28 : decode cX10_split 28 = .ok (.getfield 29, 3) := by decide +kernel
theorem dX10_split_31 : decode cX10_split 31 = .ok (.ishl, 1) := by decide +kernel
theorem dX10_split_32 : decode cX10_split 32 = .ok (.if_icmp .ge 82, 3) := by decide +kernel
theorem dX10_split_35 : decode cX10_split 35 = .ok (.iload 5, 2) := by decide +kernel
theorem dX10_split_37 : decode cX10_split 37 = .ok (.iload_n 1, 1) := by decide +kernel
theorem dX10_split_38 : decode cX10_split 38 = .ok (.iconst (-1), 1) := by decide +kernel
theorem dX10_split_39 : decode cX10_split 39 = .ok (.ixor, 1) := by decide +kernel
theorem dX10_split_40 : decode cX10_split 40 = .ok (.iand, 1) := by decide +kernel
theorem dX10_split_41 : decode cX10_split 41 = .ok (.ifCond .eq 6, 3) := by decide +kernel
theorem dX10_split_44 : decode cX10_split 44 = .ok (.goto 64, 3) := by decide +kernel
theorem dX10_split_47 : decode cX10_split 47 = .ok (.aload_n 0, 1) := by decide +kernel
theorem dX10_split_48 : decode cX10_split 48 = .ok (.iload 5, 2) := by decide +kernel
theorem dX10_split_50 : decode cX10_split 50 = .ok (.iload_n 1, 1) := by decide +kernel
theorem dX10_split_51 : decode cX10_split 51 = .ok (.invokevirtual 455, 3) := by decide +kernel
theorem dX10_split_54 : decode cX10_split 54 = .ok (.istore 6, 2) := by decide +kernel
theorem dX10_split_56 : decode cX10_split 56 = .ok (.aload_n 0, 1) := by decide +kernel
theorem dX10_split_57 : decode cX10_split 57 = .ok (.getfield 313, 3) := by decide +kernel
theorem dX10_split_60 : decode cX10_split 60 = .ok (.bipush 31, 2) := by decide +kernel
theorem dX10_split_62 : decode cX10_split 62 = .ok (.iaload, 1) := by decide +kernel
theorem dX10_split_63 : decode cX10_split 63 = .ok (.istore 7, 2) := by decide +kernel
theorem dX10_split_65 : decode cX10_split 65 = .ok (.iload 6, 2) := by decide +kernel
theorem dX10_split_67 : decode cX10_split 67 = .ok (.aload_n 0, 1) := by decide +kernel
theorem dX10_split_68 : decode cX10_split 68 = .ok (.iload_n 1, 1) := by decide +kernel
theorem dX10_split_69 : decode cX10_split 69 = .ok (.iload 5, 2) := by decide +kernel
theorem dX10_split_71 : decode cX10_split 71 = .ok (.iconst (-1), 1) := by decide +kernel
theorem dX10_split_72 : decode cX10_split 72 = .ok (.ixor, 1) := by decide +kernel
theorem dX10_split_73 : decode cX10_split 73 = .ok (.iand, 1) := by decide +kernel
theorem dX10_split_74 : decode cX10_split 74 = .ok (.iload_n 1, 1) := by decide +kernel
theorem dX10_split_75 : decode cX10_split 75 = .ok (.invokevirtual 455, 3) := by decide +kernel
theorem dX10_split_78 : decode cX10_split 78 = .ok (.iadd, 1) := by decide +kernel
theorem dX10_split_79 : decode cX10_split 79 = .ok (.istore 6, 2) := by decide +kernel
theorem dX10_split_81 : decode cX10_split 81 = .ok (.iload 6, 2) := by decide +kernel
theorem dX10_split_83 : decode cX10_split 83 = .ok (.iload_n 2, 1) := by decide +kernel
theorem dX10_split_84 : decode cX10_split 84 = .ok (.if_icmp .le 24, 3) := by decide +kernel
theorem dX10_split_87 : decode cX10_split 87 = .ok (.iload 6, 2) := by decide +kernel
theorem dX10_split_89 : decode cX10_split 89 = .ok (.istore_n 2, 1) := by decide +kernel
theorem dX10_split_90 : decode cX10_split 90 = .ok (.iload 5, 2) := by decide +kernel
theorem dX10_split_92 : decode cX10_split 92 = .ok (.istore_n 3, 1) := by decide +kernel
theorem dX10_split_93 : decode cX10_split 93 = .ok (.bipush 10, 2) := by decide +kernel
theorem dX10_split_95 : decode cX10_split 95 = .ok (.iload 7, 2) := by decide +kernel
theorem dX10_split_97 : decode cX10_split 97 = .ok (.imul, 1) := by decide +kernel
theorem dX10_split_98 : decode cX10_split 98 = .ok (.aload_n 0, 1) := by decide +kernel
theorem dX10_split_99 : decode cX10_split 99 = .ok (.getfield 313, 3) := by decide +kernel
theorem dX10_split_102 : decode cX10_split 102 = .ok (.bipush 31, 2) := by decide +kernel
theorem dX10_split_104 : decode cX10_split 104 = .ok (.iaload, 1) := by decide +kernel
theorem dX10_split_105 : decode cX10_split 105 = .ok (.iadd, 1) := by decide +kernel
theorem dX10_split_106 : decode cX10_split 106 = .ok (.istore 4, 2) := by decide +kernel
theorem dX10_split_108 : decode cX10_split 108 = .ok (.iinc 5 1, 3) := by decide +kernel
theorem dX10_split_111 : decode cX10_split 111 = .ok (.goto (-87), 3) := by decide +kernel
theorem dX10_split_114 : decode cX10_split 114 = .ok (.aload_n 0, 1) := by decide +kernel
theorem dX10_split_115 : decode cX10_split 115 = .ok (.iconst 0, 1) := by decide +kernel
theorem dX10_split_116 : decode cX10_split 116 = .ok (.putfield 15, 3) := by decide +kernel
theorem dX10_split_119 : decode cX10_split 119 = .ok (.aload_n 0, 1) := by decide +kernel
theorem dX10_split_120 : decode cX10_split 120 = .ok (.iload_n 3, 1) := by decide +kernel
theorem dX10_split_121 : decode cX10_split 121 = .ok (.i2l, 1) := by decide +kernel
theorem dX10_split_122 : decode cX10_split 122 = .ok (.invokevirtual 18, 3) := by decide +kernel
theorem dX10_split_125 : decode cX10_split 125 = .ok (.aload_n 0, 1) := by decide +kernel
theorem dX10_split_126 : decode cX10_split 126 = .ok (.iload 4, 2) := by decide +kernel
theorem dX10_split_128 : decode cX10_split 128 = .ok (.bipush 10, 2) := by decide +kernel
theorem dX10_split_130 : decode cX10_split 130 = .ok (.idiv, 1) := by decide +kernel
theorem dX10_split_131 : decode cX10_split 131 = .ok (.i2l, 1) := by decide +kernel
theorem dX10_split_132 : decode cX10_split 132 = .ok (.invokevirtual 18, 3) := by decide +kernel
theorem dX10_split_135 : decode cX10_split 135 = .ok (.aload_n 0, 1) := by decide +kernel
theorem dX10_split_136 : decode cX10_split 136 = .ok (.iload 4, 2) := by decide +kernel
theorem dX10_split_138 : decode cX10_split 138 = .ok (.bipush 10, 2) := by decide +kernel
theorem dX10_split_140 : decode cX10_split 140 = .ok (.irem, 1) := by decide +kernel
theorem dX10_split_141 : decode cX10_split 141 = .ok (.i2l, 1) := by decide +kernel
theorem dX10_split_142 : decode cX10_split 142 = .ok (.invokevirtual 18, 3) := by decide +kernel
theorem dX10_split_145 : decode cX10_split 145 = .ok (.iload_n 2, 1) := by decide +kernel
theorem dX10_split_146 : decode cX10_split 146 = .ok (.ireturn, 1) := by decide +kernel
theorem dX10_keep_0 : decode cX10_keep 0 = .ok (.aload_n 0, 1) := by decide +kernel
theorem dX10_keep_1 : decode cX10_keep 1 = .ok (.iconst 0, 1) := by decide +kernel
theorem dX10_keep_2 : decode cX10_keep 2 = .ok (.putfield 3, 3) := by decide +kernel
theorem dX10_keep_5 : decode cX10_keep 5 = .ok (.iload_n 1, 1) := by decide +kernel
theorem dX10_keep_6 : decode cX10_keep 6 = .ok (.i2l, 1) := by decide +kernel
theorem dX10_keep_7 : decode cX10_keep 7 = .ok (.lconst 0, 1) := by decide +kernel
theorem dX10_keep_8 : decode cX10_keep 8 = .ok (.ldc2_w 72, 3) := by decide +kernel
theorem dX10_keep_11 : decode cX10_keep 11 = .ok (.invokestatic 25, 3) := by decide +kernel
theorem dX10_keep_14 : decode cX10_keep 14 = .ok (.ifCond .ne 5, 3) := by decide +kernel
theorem dX10_keep_17 : decode cX10_keep 17 = .ok (.iconst 0, 1) := by decide +kernel
theorem dX10_keep_18 : decode cX10_keep 18 = .ok (.ireturn, 1) := by decide +kernel
theorem dX10_keep_19 : decode cX10_keep 19 = .ok (.aload_n 0, 1) := by decide +kernel
theorem dX10_keep_20 : decode cX10_keep 20 = .ok (.getfield 458, 3) := by decide +kernel
theorem dX10_keep_23 : decode cX10_keep 23 = .ok (.iload_n 1, 1) := by decide +kernel
theorem dX10_keep_24 : decode cX10_keep 24 = .ok (.iconst 1, 1) := by decide +kernel
theorem dX10_keep_25 : decode cX10_keep 25 = .ok (.bastore, 1) := by decide +kernel
theorem dX10_keep_26 : decode cX10_keep 26 = .ok (.aload_n 0, 1) := by decide +kernel
theorem dX10_keep_27 : decode cX10_keep 27 = .ok (.getfield 462, 3) := by decide +kernel
theorem dX10_keep_30 : decode cX10_keep 30 = .ok (.iload_n 1, 1) := by decide +kernel
theorem dX10_keep_31 : decode cX10_keep 31 = .ok (.aload_n 0, 1) := by decide +kernel
theorem dX10_keep_32 : decode cX10_keep 32 = .ok (.getfield 88, 3) := by decide +kernel
theorem dX10_keep_35 : decode cX10_keep 35 = .ok (.iastore, 1) := by decide +kernel
theorem dX10_keep_36 : decode cX10_keep 36 = .ok (.iconst 0, 1) := by decide +kernel
theorem dX10_keep_37 : decode cX10_keep 37 = .ok (.istore_n 2, 1) := by decide +kernel
theorem dX10_keep_38 : decode cX10_keep 38 = .ok (.iload_n 2, 1) := by decide +kernel
theorem dX10_keep_39 : decode cX10_keep 39 = .ok (.bipush 33, 2) := by decide +kernel
theorem dX10_keep_41 : decode cX10_keep 41 = .ok (.if_icmp .ge 26, 3) := by decide +kernel
theorem dX10_keep_44 : decode cX10_keep 44 = .ok (.aload_n 0, 1) := by decide +kernel
theorem dX10_keep_45 : decode cX10_keep 45 = .ok (.getfield 465, 3) := by decide +kernel
theorem dX10_keep_48 : decode cX10_keep 48 = .ok (.bipush 33, 2) := by decide +kernel
theorem dX10_keep_50 : decode cX10_keep 50 = .ok (.iload_n 1, 1) := by decide +kernel
theorem dX10_keep_51 : decode cX10_keep 51 = .ok (.imul, 1) := by decide +kernel
theorem dX10_keep_52 : decode cX10_keep 52 = .ok (.iload_n 2, 1) := by decide +kernel
theorem dX10_keep_53 : decode cX10_keep 53 = .ok (.iadd, 1) := by decide +kernel
theorem dX10_keep_54 : decode cX10_keep 54 = .ok (.aload_n 0, 1) := by decide +kernel
theorem dX10_keep_55 : decode cX10_keep 55 = .ok (.getfield 79, 3) := by decide +kernel
theorem dX10_keep_58 : decode cX10_keep 58 = .ok (.iload_n 2, 1) := by decide +kernel
theorem dX10_keep_59 : decode cX10_keep 59 = .ok (.iaload, 1) := by decide +kernel
theorem dX10_keep_60 : decode cX10_keep 60 = .ok (.iastore, 1) := by decide +kernel
theorem dX10_keep_61 : decode cX10_keep 61 = .ok (.iinc 2 1, 3) := by decide +kernel
theorem dX10_keep_64 : decode cX10_keep 64 = .ok (.goto (-26), 3) := by decide +kernel
theorem dX10_keep_67 : decode cX10_keep 67 = .ok (.iconst 1, 1) := by decide +kernel
theorem dX10_keep_68 : decode cX10_keep 68 = .ok (.ireturn, 1) := by decide +kernel
theorem dX10_again_0 : decode cX10_again 0 = .ok (.aload_n 0, 1) := by decide +kernel
theorem dX10_again_1 : decode cX10_again 1 = .ok (.iconst 0, 1) := by decide +kernel
theorem dX10_again_2 : decode cX10_again 2 = .ok (.putfield 3, 3) := by decide +kernel
theorem dX10_again_5 : decode cX10_again 5 = .ok (.iload_n 1, 1) := by decide +kernel
theorem dX10_again_6 : decode cX10_again 6 = .ok (.i2l, 1) := by decide +kernel
theorem dX10_again_7 : decode cX10_again 7 = .ok (.lconst 0, 1) := by decide +kernel
theorem dX10_again_8 : decode cX10_again 8 = .ok (.ldc2_w 72, 3) := by decide +kernel
theorem dX10_again_11 : decode cX10_again 11 = .ok (.invokestatic 25, 3) := by decide +kernel
theorem dX10_again_14 : decode cX10_again 14 = .ok (.ifCond .eq 25, 3) := by decide +kernel
theorem dX10_again_17 : decode cX10_again 17 = .ok (.aload_n 0, 1) := by decide +kernel
theorem dX10_again_18 : decode cX10_again 18 = .ok (.getfield 458, 3) := by decide +kernel
theorem dX10_again_21 : decode cX10_again 21 = .ok (.iload_n 1, 1) := by decide +kernel
theorem dX10_again_22 : decode cX10_again 22 = .ok (.baload, 1) := by decide +kernel
theorem dX10_again_23 : decode cX10_again 23 = .ok (.ifCond .eq 16, 3) := by decide +kernel
theorem dX10_again_26 : decode cX10_again 26 = .ok (.aload_n 0, 1) := by decide +kernel
theorem dX10_again_27 : decode cX10_again 27 = .ok (.getfield 462, 3) := by decide +kernel
theorem dX10_again_30 : decode cX10_again 30 = .ok (.iload_n 1, 1) := by decide +kernel
theorem dX10_again_31 : decode cX10_again 31 = .ok (.iaload, 1) := by decide +kernel
theorem dX10_again_32 : decode cX10_again 32 = .ok (.aload_n 0, 1) := by decide +kernel
theorem dX10_again_33 : decode cX10_again 33 = .ok (.getfield 88, 3) := by decide +kernel
theorem dX10_again_36 : decode cX10_again 36 = .ok (.if_icmp .eq 5, 3) := by decide +kernel
theorem dX10_again_39 : decode cX10_again 39 = .ok (.iconst 0, 1) := by decide +kernel
theorem dX10_again_40 : decode cX10_again 40 = .ok (.ireturn, 1) := by decide +kernel
theorem dX10_again_41 : decode cX10_again 41 = .ok (.iconst 0, 1) := by decide +kernel
theorem dX10_again_42 : decode cX10_again 42 = .ok (.istore_n 2, 1) := by decide +kernel
theorem dX10_again_43 : decode cX10_again 43 = .ok (.iload_n 2, 1) := by decide +kernel
theorem dX10_again_44 : decode cX10_again 44 = .ok (.bipush 33, 2) := by decide +kernel
theorem dX10_again_46 : decode cX10_again 46 = .ok (.if_icmp .ge 26, 3) := by decide +kernel
theorem dX10_again_49 : decode cX10_again 49 = .ok (.aload_n 0, 1) := by decide +kernel
theorem dX10_again_50 : decode cX10_again 50 = .ok (.getfield 79, 3) := by decide +kernel
theorem dX10_again_53 : decode cX10_again 53 = .ok (.iload_n 2, 1) := by decide +kernel
theorem dX10_again_54 : decode cX10_again 54 = .ok (.aload_n 0, 1) := by decide +kernel
theorem dX10_again_55 : decode cX10_again 55 = .ok (.getfield 465, 3) := by decide +kernel
theorem dX10_again_58 : decode cX10_again 58 = .ok (.bipush 33, 2) := by decide +kernel
theorem dX10_again_60 : decode cX10_again 60 = .ok (.iload_n 1, 1) := by decide +kernel
theorem dX10_again_61 : decode cX10_again 61 = .ok (.imul, 1) := by decide +kernel
theorem dX10_again_62 : decode cX10_again 62 = .ok (.iload_n 2, 1) := by decide +kernel
theorem dX10_again_63 : decode cX10_again 63 = .ok (.iadd, 1) := by decide +kernel
theorem dX10_again_64 : decode cX10_again 64 = .ok (.iaload, 1) := by decide +kernel
theorem dX10_again_65 : decode cX10_again 65 = .ok (.iastore, 1) := by decide +kernel
theorem dX10_again_66 : decode cX10_again 66 = .ok (.iinc 2 1, 3) := by decide +kernel
theorem dX10_again_69 : decode cX10_again 69 = .ok (.goto (-26), 3) := by decide +kernel
theorem dX10_again_72 : decode cX10_again 72 = .ok (.aload_n 0, 1) := by decide +kernel
theorem dX10_again_73 : decode cX10_again 73 = .ok (.iconst 0, 1) := by decide +kernel
theorem dX10_again_74 : decode cX10_again 74 = .ok (.putfield 82, 3) := by decide +kernel
theorem dX10_again_77 : decode cX10_again 77 = .ok (.iconst 1, 1) := by decide +kernel
theorem dX10_again_78 : decode cX10_again 78 = .ok (.ireturn, 1) := by decide +kernel
theorem dX10_count_0 : decode cX10_count 0 = .ok (.aload_n 0, 1) := by decide +kernel
theorem dX10_count_1 : decode cX10_count 1 = .ok (.iconst 0, 1) := by decide +kernel
theorem dX10_count_2 : decode cX10_count 2 = .ok (.putfield 3, 3) := by decide +kernel
theorem dX10_count_5 : decode cX10_count 5 = .ok (.iload_n 1, 1) := by decide +kernel
theorem dX10_count_6 : decode cX10_count 6 = .ok (.tableswitch 149 0 11 #[62, 67, 72, 80, 88, 96, 115, 124, 129, 134, 139, 144], 62) := by decide +kernel
theorem dX10_count_68 : decode cX10_count 68 = .ok (.aload_n 0, 1) := by decide +kernel
theorem dX10_count_69 : decode cX10_count 69 = .ok (.getfield 22, 3) := by decide +kernel
theorem dX10_count_72 : decode cX10_count 72 = .ok (.ireturn, 1) := by decide +kernel
theorem dX10_count_73 : decode cX10_count 73 = .ok (.aload_n 0, 1) := by decide +kernel
theorem dX10_count_74 : decode cX10_count 74 = .ok (.getfield 29, 3) := by decide +kernel
theorem dX10_count_77 : decode cX10_count 77 = .ok (.ireturn, 1) := by decide +kernel
theorem dX10_count_78 : decode cX10_count 78 = .ok (.aload_n 0, 1) := by decide +kernel
theorem dX10_count_79 : decode cX10_count 79 = .ok (.getfield 79, 3) := by decide +kernel
theorem dX10_count_82 : decode cX10_count 82 = .ok (.bipush 31, 2) := by decide +kernel
theorem dX10_count_84 : decode cX10_count 84 = .ok (.iaload, 1) := by decide +kernel
theorem dX10_count_85 : decode cX10_count 85 = .ok (.ireturn, 1) := by decide +kernel
theorem dX10_count_86 : decode cX10_count 86 = .ok (.aload_n 0, 1) := by decide +kernel
theorem dX10_count_87 : decode cX10_count 87 = .ok (.getfield 79, 3) := by decide +kernel
theorem dX10_count_90 : decode cX10_count 90 = .ok (.bipush 32, 2) := by decide +kernel
theorem dX10_count_92 : decode cX10_count 92 = .ok (.iaload, 1) := by decide +kernel
theorem dX10_count_93 : decode cX10_count 93 = .ok (.ireturn, 1) := by decide +kernel
theorem dX10_count_94 : decode cX10_count 94 = .ok (.aload_n 0, 1) := by decide +kernel
theorem dX10_count_95 : decode cX10_count 95 = .ok (.getfield 79, 3) := by decide +kernel
theorem dX10_count_98 : decode cX10_count 98 = .ok (.bipush 30, 2) := by decide +kernel
theorem dX10_count_100 : decode cX10_count 100 = .ok (.iaload, 1) := by decide +kernel
theorem dX10_count_101 : decode cX10_count 101 = .ok (.ireturn, 1) := by decide +kernel
theorem dX10_count_102 : decode cX10_count 102 = .ok (.aload_n 0, 1) := by decide +kernel
theorem dX10_count_103 : decode cX10_count 103 = .ok (.aload_n 0, 1) := by decide +kernel
theorem dX10_count_104 : decode cX10_count 104 = .ok (.getfield 79, 3) := by decide +kernel
theorem dX10_count_107 : decode cX10_count 107 = .ok (.invokevirtual 295, 3) := by decide +kernel
theorem dX10_count_110 : decode cX10_count 110 = .ok (.aload_n 0, 1) := by decide +kernel
theorem dX10_count_111 : decode cX10_count 111 = .ok (.getfield 79, 3) := by decide +kernel
theorem dX10_count_114 : decode cX10_count 114 = .ok (.bipush 30, 2) := by decide +kernel
theorem dX10_count_116 : decode cX10_count 116 = .ok (.iaload, 1) := by decide +kernel
theorem dX10_count_117 : decode cX10_count 117 = .ok (.iconst (-1), 1) := by decide +kernel
theorem dX10_count_118 : decode cX10_count 118 = .ok (.ixor, 1) := by decide +kernel
theorem dX10_count_119 : decode cX10_count 119 = .ok (.iand, 1) := by decide +kernel
theorem dX10_count_120 : decode cX10_count 120 = .ok (.ireturn, 1) := by decide +kernel
theorem dX10_count_121 : decode cX10_count 121 = .ok (.aload_n 0, 1) := by decide +kernel
theorem dX10_count_122 : decode cX10_count 122 = .ok (.aload_n 0, 1) := by decide +kernel
theorem dX10_count_123 : decode cX10_count 123 = .ok (.getfield 79, 3) := by decide +kernel
theorem dX10_count_126 : decode cX10_count 126 = .ok (.invokevirtual 391, 3) := by decide +kernel
theorem dX10_count_129 : decode cX10_count 129 = .ok (.ireturn, 1) := by decide +kernel
theorem dX10_count_130 : decode cX10_count 130 = .ok (.aload_n 0, 1) := by decide +kernel
theorem dX10_count_131 : decode cX10_count 131 = .ok (.getfield 76, 3) := by decide +kernel
theorem dX10_count_134 : decode cX10_count 134 = .ok (.ireturn, 1) := by decide +kernel
theorem dX10_count_135 : decode cX10_count 135 = .ok (.aload_n 0, 1) := by decide +kernel
theorem dX10_count_136 : decode cX10_count 136 = .ok (.getfield 82, 3) := by decide +kernel
theorem dX10_count_139 : decode cX10_count 139 = .ok (.ireturn, 1) := by decide +kernel
theorem dX10_count_140 : decode cX10_count 140 = .ok (.aload_n 0, 1) := by decide +kernel
theorem dX10_count_141 : decode cX10_count 141 = .ok (.getfield 85, 3) := by decide +kernel
theorem dX10_count_144 : decode cX10_count 144 = .ok (.ireturn, 1) := by decide +kernel
theorem dX10_count_145 : decode cX10_count 145 = .ok (.aload_n 0, 1) := by decide +kernel
theorem dX10_count_146 : decode cX10_count 146 = .ok (.getfield 15, 3) := by decide +kernel
theorem dX10_count_149 : decode cX10_count 149 = .ok (.ireturn, 1) := by decide +kernel
theorem dX10_count_150 : decode cX10_count 150 = .ok (.aload_n 0, 1) := by decide +kernel
theorem dX10_count_151 : decode cX10_count 151 = .ok (.getfield 32, 3) := by decide +kernel
theorem dX10_count_154 : decode cX10_count 154 = .ok (.ireturn, 1) := by decide +kernel
theorem dX10_count_155 : decode cX10_count 155 = .ok (.bipush (-100), 2) := by decide +kernel
theorem dX10_count_157 : decode cX10_count 157 = .ok (.ireturn, 1) := by decide +kernel
theorem dX10_init_0 : decode cX10_init 0 = .ok (.aload_n 0, 1) := by decide +kernel
theorem dX10_init_1 : decode cX10_init 1 = .ok (.invokespecial 468, 3) := by decide +kernel
theorem dX10_init_4 : decode cX10_init 4 = .ok (.aload_n 0, 1) := by decide +kernel
theorem dX10_init_5 : decode cX10_init 5 = .ok (.bipush 24, 2) := by decide +kernel
theorem dX10_init_7 : decode cX10_init 7 = .ok (.newarray .long, 2) := by decide +kernel
theorem dX10_init_9 : decode cX10_init 9 = .ok (.putfield 11, 3) := by decide +kernel
theorem dX10_init_12 : decode cX10_init 12 = .ok (.aload_n 0, 1) := by decide +kernel
theorem dX10_init_13 : decode cX10_init 13 = .ok (.iconst 2, 1) := by decide +kernel
theorem dX10_init_14 : decode cX10_init 14 = .ok (.putfield 22, 3) := by decide +kernel
theorem dX10_init_17 : decode cX10_init 17 = .ok (.aload_n 0, 1) := by decide +kernel
theorem dX10_init_18 : decode cX10_init 18 = .ok (.iconst (-1), 1) := by decide +kernel
theorem dX10_init_19 : decode cX10_init 19 = .ok (.putfield 76, 3) := by decide +kernel
theorem dX10_init_22 : decode cX10_init 22 = .ok (.aload_n 0, 1) := by decide +kernel
theorem dX10_init_23 : decode cX10_init 23 = .ok (.bipush 10, 2) := by decide +kernel
theorem dX10_init_25 : decode cX10_init 25 = .ok (.newarray .int, 2) := by decide +kernel
theorem dX10_init_27 : decode cX10_init 27 = .ok (.putfield 135, 3) := by decide +kernel
theorem dX10_init_30 : decode cX10_init 30 = .ok (.aload_n 0, 1) := by decide +kernel
theorem dX10_init_31 : decode cX10_init 31 = .ok (.bipush 10, 2) := by decide +kernel
theorem dX10_init_33 : decode cX10_init 33 = .ok (.newarray .int, 2) := by decide +kernel
theorem dX10_init_35 : decode cX10_init 35 = .ok (.putfield 138, 3) := by decide +kernel
theorem dX10_init_38 : decode cX10_init 38 = .ok (.aload_n 0, 1) := by decide +kernel
theorem dX10_init_39 : decode cX10_init 39 = .ok (.bipush 33, 2) := by decide +kernel
theorem dX10_init_41 : decode cX10_init 41 = .ok (.newarray .int, 2) := by decide +kernel
theorem dX10_init_43 : decode cX10_init 43 = .ok (.putfield 79, 3) := by decide +kernel
theorem dX10_init_46 : decode cX10_init 46 = .ok (.aload_n 0, 1) := by decide +kernel
theorem dX10_init_47 : decode cX10_init 47 = .ok (.bipush 33, 2) := by decide +kernel
theorem dX10_init_49 : decode cX10_init 49 = .ok (.newarray .int, 2) := by decide +kernel
theorem dX10_init_51 : decode cX10_init 51 = .ok (.putfield 313, 3) := by decide +kernel
theorem dX10_init_54 : decode cX10_init 54 = .ok (.aload_n 0, 1) := by decide +kernel
theorem dX10_init_55 : decode cX10_init 55 = .ok (.bipush 80, 2) := by decide +kernel
theorem dX10_init_57 : decode cX10_init 57 = .ok (.newarray .int, 2) := by decide +kernel
theorem dX10_init_59 : decode cX10_init 59 = .ok (.putfield 35, 3) := by decide +kernel
theorem dX10_init_62 : decode cX10_init 62 = .ok (.aload_n 0, 1) := by decide +kernel
theorem dX10_init_63 : decode cX10_init 63 = .ok (.bipush 10, 2) := by decide +kernel
theorem dX10_init_65 : decode cX10_init 65 = .ok (.newarray .int, 2) := by decide +kernel
theorem dX10_init_67 : decode cX10_init 67 = .ok (.putfield 102, 3) := by decide +kernel
theorem dX10_init_70 : decode cX10_init 70 = .ok (.aload_n 0, 1) := by decide +kernel
theorem dX10_init_71 : decode cX10_init 71 = .ok (.bipush 10, 2) := by decide +kernel
theorem dX10_init_73 : decode cX10_init 73 = .ok (.newarray .int, 2) := by decide +kernel
theorem dX10_init_75 : decode cX10_init 75 = .ok (.putfield 111, 3) := by decide +kernel
theorem dX10_init_78 : decode cX10_init 78 = .ok (.aload_n 0, 1) := by decide +kernel
theorem dX10_init_79 : decode cX10_init 79 = .ok (.bipush 10, 2) := by decide +kernel
theorem dX10_init_81 : decode cX10_init 81 = .ok (.newarray .int, 2) := by decide +kernel
theorem dX10_init_83 : decode cX10_init 83 = .ok (.putfield 114, 3) := by decide +kernel
theorem dX10_init_86 : decode cX10_init 86 = .ok (.aload_n 0, 1) := by decide +kernel
theorem dX10_init_87 : decode cX10_init 87 = .ok (.bipush 80, 2) := by decide +kernel
theorem dX10_init_89 : decode cX10_init 89 = .ok (.newarray .int, 2) := by decide +kernel
theorem dX10_init_91 : decode cX10_init 91 = .ok (.putfield 172, 3) := by decide +kernel
theorem dX10_init_94 : decode cX10_init 94 = .ok (.aload_n 0, 1) := by decide +kernel
theorem dX10_init_95 : decode cX10_init 95 = .ok (.bipush 80, 2) := by decide +kernel
theorem dX10_init_97 : decode cX10_init 97 = .ok (.newarray .int, 2) := by decide +kernel
theorem dX10_init_99 : decode cX10_init 99 = .ok (.putfield 141, 3) := by decide +kernel
theorem dX10_init_102 : decode cX10_init 102 = .ok (.aload_n 0, 1) := by decide +kernel
theorem dX10_init_103 : decode cX10_init 103 = .ok (.bipush 80, 2) := by decide +kernel
theorem dX10_init_105 : decode cX10_init 105 = .ok (.newarray .int, 2) := by decide +kernel
theorem dX10_init_107 : decode cX10_init 107 = .ok (.putfield 202, 3) := by decide +kernel
theorem dX10_init_110 : decode cX10_init 110 = .ok (.aload_n 0, 1) := by decide +kernel
theorem dX10_init_111 : decode cX10_init 111 = .ok (.bipush 9, 2) := by decide +kernel
theorem dX10_init_113 : decode cX10_init 113 = .ok (.newarray .int, 2) := by decide +kernel
theorem dX10_init_115 : decode cX10_init 115 = .ok (.putfield 189, 3) := by decide +kernel
theorem dX10_init_118 : decode cX10_init 118 = .ok (.aload_n 0, 1) := by decide +kernel
theorem dX10_init_119 : decode cX10_init 119 = .ok (.bipush 9, 2) := by decide +kernel
theorem dX10_init_121 : decode cX10_init 121 = .ok (.newarray .int, 2) := by decide +kernel
theorem dX10_init_123 : decode cX10_init 123 = .ok (.putfield 192, 3) := by decide +kernel
theorem dX10_init_126 : decode cX10_init 126 = .ok (.aload_n 0, 1) := by decide +kernel
theorem dX10_init_127 : decode cX10_init 127 = .ok (.sipush 693, 3) := by decide +kernel
theorem dX10_init_130 : decode cX10_init 130 = .ok (.newarray .int, 2) := by decide +kernel
theorem dX10_init_132 : decode cX10_init 132 = .ok (.putfield 245, 3) := by decide +kernel
theorem dX10_init_135 : decode cX10_init 135 = .ok (.aload_n 0, 1) := by decide +kernel
theorem dX10_init_136 : decode cX10_init 136 = .ok (.bipush 60, 2) := by decide +kernel
theorem dX10_init_138 : decode cX10_init 138 = .ok (.newarray .int, 2) := by decide +kernel
theorem dX10_init_140 : decode cX10_init 140 = .ok (.putfield 268, 3) := by decide +kernel
theorem dX10_init_143 : decode cX10_init 143 = .ok (.aload_n 0, 1) := by decide +kernel
theorem dX10_init_144 : decode cX10_init 144 = .ok (.bipush 60, 2) := by decide +kernel
theorem dX10_init_146 : decode cX10_init 146 = .ok (.newarray .int, 2) := by decide +kernel
theorem dX10_init_148 : decode cX10_init 148 = .ok (.putfield 277, 3) := by decide +kernel
theorem dX10_init_151 : decode cX10_init 151 = .ok (.aload_n 0, 1) := by decide +kernel
theorem dX10_init_152 : decode cX10_init 152 = .ok (.bipush 60, 2) := by decide +kernel
theorem dX10_init_154 : decode cX10_init 154 = .ok (.newarray .int, 2) := by decide +kernel
theorem dX10_init_156 : decode cX10_init 156 = .ok (.putfield 280, 3) := by decide +kernel
theorem dX10_init_159 : decode cX10_init 159 = .ok (.aload_n 0, 1) := by decide +kernel
theorem dX10_init_160 : decode cX10_init 160 = .ok (.bipush 60, 2) := by decide +kernel
theorem dX10_init_162 : decode cX10_init 162 = .ok (.newarray .int, 2) := by decide +kernel
theorem dX10_init_164 : decode cX10_init 164 = .ok (.putfield 274, 3) := by decide +kernel
theorem dX10_init_167 : decode cX10_init 167 = .ok (.aload_n 0, 1) := by decide +kernel
theorem dX10_init_168 : decode cX10_init 168 = .ok (.bipush 9, 2) := by decide +kernel
theorem dX10_init_170 : decode cX10_init 170 = .ok (.newarray .int, 2) := by decide +kernel
theorem dX10_init_172 : decode cX10_init 172 = .ok (.putfield 299, 3) := by decide +kernel
theorem dX10_init_175 : decode cX10_init 175 = .ok (.aload_n 0, 1) := by decide +kernel
theorem dX10_init_176 : decode cX10_init 176 = .ok (.sipush 3000, 3) := by decide +kernel
theorem dX10_init_179 : decode cX10_init 179 = .ok (.newarray .long, 2) := by decide +kernel
theorem dX10_init_181 : decode cX10_init 181 = .ok (.putfield 333, 3) := by decide +kernel
theorem dX10_init_184 : decode cX10_init 184 = .ok (.aload_n 0, 1) := by decide +kernel
theorem dX10_init_185 : decode cX10_init 185 = .ok (.sipush 3000, 3) := by decide +kernel
theorem dX10_init_188 : decode cX10_init 188 = .ok (.newarray .int, 2) := by decide +kernel
theorem dX10_init_190 : decode cX10_init 190 = .ok (.putfield 366, 3) := by decide +kernel
theorem dX10_init_193 : decode cX10_init 193 = .ok (.aload_n 0, 1) := by decide +kernel
theorem dX10_init_194 : decode cX10_init 194 = .ok (.sipush 3000, 3) := by decide +kernel
theorem dX10_init_197 : decode cX10_init 197 = .ok (.newarray .int, 2) := by decide +kernel
theorem dX10_init_199 : decode cX10_init 199 = .ok (.putfield 369, 3) := by decide +kernel
theorem dX10_init_202 : decode cX10_init 202 = .ok (.aload_n 0, 1) := by decide +kernel
theorem dX10_init_203 : decode cX10_init 203 = .ok (.sipush 3000, 3) := by decide +kernel
theorem dX10_init_206 : decode cX10_init 206 = .ok (.newarray .int, 2) := by decide +kernel
theorem dX10_init_208 : decode cX10_init 208 = .ok (.putfield 372, 3) := by decide +kernel
theorem dX10_init_211 : decode cX10_init 211 = .ok (.aload_n 0, 1) := by decide +kernel
theorem dX10_init_212 : decode cX10_init 212 = .ok (.sipush 16384, 3) := by decide +kernel
theorem dX10_init_215 : decode cX10_init 215 = .ok (.newarray .int, 2) := by decide +kernel
theorem dX10_init_217 : decode cX10_init 217 = .ok (.putfield 348, 3) := by decide +kernel
theorem dX10_init_220 : decode cX10_init 220 = .ok (.aload_n 0, 1) := by decide +kernel
theorem dX10_init_221 : decode cX10_init 221 = .ok (.sipush 3000, 3) := by decide +kernel
theorem dX10_init_224 : decode cX10_init 224 = .ok (.newarray .int, 2) := by decide +kernel
theorem dX10_init_226 : decode cX10_init 226 = .ok (.putfield 403, 3) := by decide +kernel
theorem dX10_init_229 : decode cX10_init 229 = .ok (.aload_n 0, 1) := by decide +kernel
theorem dX10_init_230 : decode cX10_init 230 = .ok (.bipush 8, 2) := by decide +kernel
theorem dX10_init_232 : decode cX10_init 232 = .ok (.newarray .int, 2) := by decide +kernel
theorem dX10_init_234 : decode cX10_init 234 = .ok (.putfield 418, 3) := by decide +kernel
theorem dX10_init_237 : decode cX10_init 237 = .ok (.aload_n 0, 1) := by decide +kernel
theorem dX10_init_238 : decode cX10_init 238 = .ok (.bipush 8, 2) := by decide +kernel
theorem dX10_init_240 : decode cX10_init 240 = .ok (.newarray .int, 2) := by decide +kernel
theorem dX10_init_242 : decode cX10_init 242 = .ok (.putfield 421, 3) := by decide +kernel
theorem dX10_init_245 : decode cX10_init 245 = .ok (.aload_n 0, 1) := by decide +kernel
theorem dX10_init_246 : decode cX10_init 246 = .ok (.bipush 8, 2) := by decide +kernel
theorem dX10_init_248 : decode cX10_init 248 = .ok (.newarray .int, 2) := by decide +kernel
theorem dX10_init_250 : decode cX10_init 250 = .ok (.putfield 424, 3) := by decide +kernel
theorem dX10_init_253 : decode cX10_init 253 = .ok (.aload_n 0, 1) := by decide +kernel
theorem dX10_init_254 : decode cX10_init 254 = .ok (.bipush 9, 2) := by decide +kernel
theorem dX10_init_256 : decode cX10_init 256 = .ok (.newarray .long, 2) := by decide +kernel
theorem dX10_init_258 : decode cX10_init 258 = .ok (.putfield 439, 3) := by decide +kernel
theorem dX10_init_261 : decode cX10_init 261 = .ok (.aload_n 0, 1) := by decide +kernel
theorem dX10_init_262 : decode cX10_init 262 = .ok (.iconst 3, 1) := by decide +kernel
theorem dX10_init_263 : decode cX10_init 263 = .ok (.newarray .boolean, 2) := by decide +kernel
theorem dX10_init_265 : decode cX10_init 265 = .ok (.putfield 458, 3) := by decide +kernel
theorem dX10_init_268 : decode cX10_init 268 = .ok (.aload_n 0, 1) := by decide +kernel
theorem dX10_init_269 : decode cX10_init 269 = .ok (.iconst 3, 1) := by decide +kernel
theorem dX10_init_270 : decode cX10_init 270 = .ok (.newarray .int, 2) := by decide +kernel
theorem dX10_init_272 : decode cX10_init 272 = .ok (.putfield 462, 3) := by decide +kernel
theorem dX10_init_275 : decode cX10_init 275 = .ok (.aload_n 0, 1) := by decide +kernel
theorem dX10_init_276 : decode cX10_init 276 = .ok (.bipush 99, 2) := by decide +kernel
theorem dX10_init_278 : decode cX10_init 278 = .ok (.newarray .int, 2) := by decide +kernel
theorem dX10_init_280 : decode cX10_init 280 = .ok (.putfield 465, 3) := by decide +kernel
theorem dX10_init_283 : decode cX10_init 283 = .ok (.return_, 1) := by decide +kernel
theorem dX10_row_0 : decode cX10_row 0 = .ok (.aload_n 0, 1) := by decide +kernel
theorem dX10_row_1 : decode cX10_row 1 = .ok (.iconst 0, 1) := by decide +kernel
theorem dX10_row_2 : decode cX10_row 2 = .ok (.putfield 3, 3) := by decide +kernel
theorem dX10_row_5 : decode cX10_row 5 = .ok (.iload_n 1, 1) := by decide +kernel
theorem dX10_row_6 : decode cX10_row 6 = .ok (.i2l, 1) := by decide +kernel
theorem dX10_row_7 : decode cX10_row 7 = .ok (.lconst 0, 1) := by decide +kernel
theorem dX10_row_8 : decode cX10_row 8 = .ok (.aload_n 0, 1) := by decide +kernel
theorem dX10_row_9 : decode cX10_row 9 = .ok (.getfield 15, 3) := by decide +kernel
theorem dX10_row_12 : decode cX10_row 12 = .ok (.iconst 1, 1) := by decide +kernel
theorem dX10_row_13 : decode cX10_row 13 = .ok (.isub, 1) := by decide +kernel
theorem dX10_row_14 : decode cX10_row 14 = .ok (.i2l, 1) := by decide +kernel
theorem dX10_row_15 : decode cX10_row 15 = .ok (.invokestatic 25, 3) := by decide +kernel
theorem dX10_row_18 : decode cX10_row 18 = .ok (.ifCond .ne 10, 3) := by decide +kernel
theorem dX10_row_21 : decode cX10_row 21 = .ok (.aload_n 0, 1) := by decide +kernel
theorem dX10_row_22 : decode cX10_row 22 = .ok (.iconst 1, 1) := by decide +kernel
theorem dX10_row_23 : decode cX10_row 23 = .ok (.putfield 3, 3) := by decide +kernel
theorem dX10_row_26 : decode cX10_row 26 = .ok (.lconst 0, 1) := by decide +kernel
theorem dX10_row_27 : decode cX10_row 27 = .ok (.lreturn, 1) := by decide +kernel
theorem dX10_row_28 : decode cX10_row 28 = .ok (.aload_n 0, 1) := by decide +kernel
theorem dX10_row_29 : decode cX10_row 29 = .ok (.getfield 11, 3) := by decide +kernel
theorem dX10_row_32 : decode cX10_row 32 = .ok (.iload_n 1, 1) := by decide +kernel
theorem dX10_row_33 : decode cX10_row 33 = .ok (.laload, 1) := by decide +kernel
theorem dX10_row_34 : decode cX10_row 34 = .ok (.lreturn, 1) := by decide +kernel
