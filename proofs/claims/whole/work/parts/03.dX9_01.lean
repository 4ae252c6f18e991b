theorem dX9_fits_42 : decode cX9_fits 42 = .ok (.aload_n 0, 1) := by decide +kernel
theorem dX9_fits_43 : decode cX9_fits 43 = .ok (.getfield 51, 3) := by decide +kernel
theorem dX9_fits_46 : decode cX9_fits 46 = .ok (.aload_n 0, 1) := by decide +kernel
theorem dX9_fits_47 : decode cX9_fits 47 = .ok (.getfield 19, 3) := by decide +kernel
theorem dX9_fits_50 : decode cX9_fits 50 = .ok (.iload_n 1, 1) := by decide +kernel
theorem dX9_fits_51 : decode cX9_fits 51 = .ok (.iload_n 3, 1) := by decide +kernel
theorem dX9_fits_52 : decode cX9_fits 52 = .ok (.invokevirtual 326, 3) := by decide +kernel
theorem dX9_fits_55 : decode cX9_fits 55 = .ok (.ifCond .eq 19, 3) := by decide +kernel
theorem dX9_fits_58 : decode cX9_fits 58 = .ok (.iload_n 2, 1) := by decide +kernel
theorem dX9_fits_59 : decode cX9_fits 59 = .ok (.iconst 1, 1) := by decide +kernel
theorem dX9_fits_60 : decode cX9_fits 60 = .ok (.iload_n 3, 1) := by decide +kernel
theorem dX9_fits_61 : decode cX9_fits 61 = .ok (.iconst (-1), 1) := by decide +kernel
theorem dX9_fits_62 : decode cX9_fits 62 = .ok (.if_icmp .ne 8, 3) := by decide +kernel
theorem dX9_fits_65 : decode cX9_fits 65 = .ok (.bipush 9, 2) := by decide +kernel
theorem dX9_fits_67 : decode cX9_fits 67 = .ok (.goto 4, 3) := by decide +kernel
theorem dX9_fits_70 : decode cX9_fits 70 = .ok (.iload_n 3, 1) := by decide +kernel
theorem dX9_fits_71 : decode cX9_fits 71 = .ok (.ishl, 1) := by decide +kernel
theorem dX9_fits_72 : decode cX9_fits 72 = .ok (.ior, 1) := by decide +kernel
theorem dX9_fits_73 : decode cX9_fits 73 = .ok (.istore_n 2, 1) := by decide +kernel
theorem dX9_fits_74 : decode cX9_fits 74 = .ok (.iinc 3 1, 3) := by decide +kernel
theorem dX9_fits_77 : decode cX9_fits 77 = .ok (.goto (-46), 3) := by decide +kernel
theorem dX9_fits_80 : decode cX9_fits 80 = .ok (.iload_n 2, 1) := by decide +kernel
theorem dX9_fits_81 : decode cX9_fits 81 = .ok (.ireturn, 1) := by decide +kernel
theorem dX9_lies_0 : decode cX9_lies 0 = .ok (.aload_n 0, 1) := by decide +kernel
theorem dX9_lies_1 : decode cX9_lies 1 = .ok (.getfield 51, 3) := by decide +kernel
theorem dX9_lies_4 : decode cX9_lies 4 = .ok (.aload_n 0, 1) := by decide +kernel
theorem dX9_lies_5 : decode cX9_lies 5 = .ok (.getfield 26, 3) := by decide +kernel
theorem dX9_lies_8 : decode cX9_lies 8 = .ok (.getfield 133, 3) := by decide +kernel
theorem dX9_lies_11 : decode cX9_lies 11 = .ok (.invokevirtual 318, 3) := by decide +kernel
theorem dX9_lies_14 : decode cX9_lies 14 = .ok (.aload_n 0, 1) := by decide +kernel
theorem dX9_lies_15 : decode cX9_lies 15 = .ok (.getfield 51, 3) := by decide +kernel
theorem dX9_lies_18 : decode cX9_lies 18 = .ok (.aload_n 0, 1) := by decide +kernel
theorem dX9_lies_19 : decode cX9_lies 19 = .ok (.getfield 19, 3) := by decide +kernel
theorem dX9_lies_22 : decode cX9_lies 22 = .ok (.invokevirtual 330, 3) := by decide +kernel
theorem dX9_lies_25 : decode cX9_lies 25 = .ok (.ifCond .eq 14, 3) := by decide +kernel
theorem dX9_lies_28 : decode cX9_lies 28 = .ok (.aload_n 0, 1) := by decide +kernel
theorem dX9_lies_29 : decode cX9_lies 29 = .ok (.invokevirtual 192, 3) := by decide +kernel
theorem dX9_lies_32 : decode cX9_lies 32 = .ok (.aload_n 0, 1) := by decide +kernel
theorem dX9_lies_33 : decode cX9_lies 33 = .ok (.lconst 0, 1) := by decide +kernel
theorem dX9_lies_34 : decode cX9_lies 34 = .ok (.invokevirtual 195, 3) := by decide +kernel
theorem dX9_lies_37 : decode cX9_lies 37 = .ok (.iconst 0, 1) := by decide +kernel
theorem dX9_lies_38 : decode cX9_lies 38 = .ok (.ireturn, 1) := by decide +kernel
theorem dX9_lies_39 : decode cX9_lies 39 = .ok (.aload_n 0, 1) := by decide +kernel
theorem dX9_lies_40 : decode cX9_lies 40 = .ok (.getfield 19, 3) := by decide +kernel
theorem dX9_lies_43 : decode cX9_lies 43 = .ok (.invokevirtual 284, 3) := by decide +kernel
theorem dX9_lies_46 : decode cX9_lies 46 = .ok (.istore_n 1, 1) := by decide +kernel
theorem dX9_lies_47 : decode cX9_lies 47 = .ok (.iconst 1, 1) := by decide +kernel
theorem dX9_lies_48 : decode cX9_lies 48 = .ok (.istore_n 2, 1) := by decide +kernel
theorem dX9_lies_49 : decode cX9_lies 49 = .ok (.iload_n 2, 1) := by decide +kernel
theorem dX9_lies_50 : decode cX9_lies 50 = .ok (.iconst 2, 1) := by decide +kernel
theorem dX9_lies_51 : decode cX9_lies 51 = .ok (.if_icmp .gt 40, 3) := by decide +kernel
theorem dX9_lies_54 : decode cX9_lies 54 = .ok (.iconst 1, 1) := by decide +kernel
theorem dX9_lies_55 : decode cX9_lies 55 = .ok (.istore_n 3, 1) := by decide +kernel
theorem dX9_lies_56 : decode cX9_lies 56 = .ok (.iload_n 3, 1) := by decide +kernel
theorem dX9_lies_57 : decode cX9_lies 57 = .ok (.iload_n 1, 1) := by decide +kernel
theorem dX9_lies_58 : decode cX9_lies 58 = .ok (.if_icmp .gt 27, 3) := by decide +kernel
theorem dX9_lies_61 : decode cX9_lies 61 = .ok (.iload_n 3, 1) := by decide +kernel
theorem dX9_lies_62 : decode cX9_lies 62 = .ok (.invokestatic 272, 3) := by decide +kernel
theorem dX9_lies_65 : decode cX9_lies 65 = .ok (.iload_n 2, 1) := by decide +kernel
theorem dX9_lies_66 : decode cX9_lies 66 = .ok (.if_icmp .ne 13, 3) := by decide +kernel
theorem dX9_lies_69 : decode cX9_lies 69 = .ok (.aload_n 0, 1) := by decide +kernel
theorem dX9_lies_70 : decode cX9_lies 70 = .ok (.iload_n 3, 1) := by decide +kernel
theorem dX9_lies_71 : decode cX9_lies 71 = .ok (.invokevirtual 334, 3) := by decide +kernel
theorem dX9_lies_74 : decode cX9_lies 74 = .ok (.ifCond .eq 5, 3) := by decide +kernel
theorem dX9_lies_77 : decode cX9_lies 77 = .ok (.iload_n 2, 1) := by decide +kernel
theorem dX9_lies_78 : decode cX9_lies 78 = .ok (.ireturn, 1) := by decide +kernel
theorem dX9_lies_79 : decode cX9_lies 79 = .ok (.iinc 3 1, 3) := by decide +kernel
theorem dX9_lies_82 : decode cX9_lies 82 = .ok (.goto (-26), 3) := by decide +kernel
theorem dX9_lies_85 : decode cX9_lies 85 = .ok (.iinc 2 1, 3) := by decide +kernel
theorem dX9_lies_88 : decode cX9_lies 88 = .ok (.goto (-39), 3) := by decide +kernel
theorem dX9_lies_91 : decode cX9_lies 91 = .ok (.bipush (-2), 2) := by decide +kernel
theorem dX9_lies_93 : decode cX9_lies 93 = .ok (.ireturn, 1) := by decide +kernel
theorem dX9_truly_0 : decode cX9_truly 0 = .ok (.aload_n 0, 1) := by decide +kernel
theorem dX9_truly_1 : decode cX9_truly 1 = .ok (.getfield 19, 3) := by decide +kernel
theorem dX9_truly_4 : decode cX9_truly 4 = .ok (.iload_n 1, 1) := by decide +kernel
theorem dX9_truly_5 : decode cX9_truly 5 = .ok (.invokevirtual 148, 3) := by decide +kernel
theorem dX9_truly_8 : decode cX9_truly 8 = .ok (.ifCond .ne 5, 3) := by decide +kernel
theorem dX9_truly_11 : decode cX9_truly 11 = .ok (.iconst (-1), 1) := by decide +kernel
theorem dX9_truly_12 : decode cX9_truly 12 = .ok (.ireturn, 1) := by decide +kernel
theorem dX9_truly_13 : decode cX9_truly 13 = .ok (.aload_n 0, 1) := by decide +kernel
theorem dX9_truly_14 : decode cX9_truly 14 = .ok (.getfield 51, 3) := by decide +kernel
theorem dX9_truly_17 : decode cX9_truly 17 = .ok (.aload_n 0, 1) := by decide +kernel
theorem dX9_truly_18 : decode cX9_truly 18 = .ok (.getfield 26, 3) := by decide +kernel
theorem dX9_truly_21 : decode cX9_truly 21 = .ok (.getfield 133, 3) := by decide +kernel
theorem dX9_truly_24 : decode cX9_truly 24 = .ok (.invokevirtual 318, 3) := by decide +kernel
theorem dX9_truly_27 : decode cX9_truly 27 = .ok (.iconst 0, 1) := by decide +kernel
theorem dX9_truly_28 : decode cX9_truly 28 = .ok (.istore_n 2, 1) := by decide +kernel
theorem dX9_truly_29 : decode cX9_truly 29 = .ok (.iconst 0, 1) := by decide +kernel
theorem dX9_truly_30 : decode cX9_truly 30 = .ok (.istore_n 3, 1) := by decide +kernel
theorem dX9_truly_31 : decode cX9_truly 31 = .ok (.iload_n 3, 1) := by decide +kernel
theorem dX9_truly_32 : decode cX9_truly 32 = .ok (.aload_n 0, 1) := by decide +kernel
theorem dX9_truly_33 : decode cX9_truly 33 = .ok (.getfield 19, 3) := by decide +kernel
theorem dX9_truly_36 : decode cX9_truly 36 = .ok (.getfield 154, 3) := by decide +kernel
theorem dX9_truly_39 : decode cX9_truly 39 = .ok (.if_icmp .ge 31, 3) := by decide +kernel
theorem dX9_truly_42 : decode cX9_truly 42 = .ok (.aload_n 0, 1) := by decide +kernel
theorem dX9_truly_43 : decode cX9_truly 43 = .ok (.getfield 51, 3) := by decide +kernel
theorem dX9_truly_46 : decode cX9_truly 46 = .ok (.aload_n 0, 1) := by decide +kernel
theorem dX9_truly_47 : decode cX9_truly 47 = .ok (.getfield 19, 3) := by decide +kernel
theorem dX9_truly_50 : decode cX9_truly 50 = .ok (.iload_n 3, 1) := by decide +kernel
theorem dX9_truly_51 : decode cX9_truly 51 = .ok (.iload_n 1, 1) := by decide +kernel
theorem dX9_truly_52 : decode cX9_truly 52 = .ok (.invokevirtual 337, 3) := by decide +kernel
theorem dX9_truly_55 : decode cX9_truly 55 = .ok (.ifCond .eq 9, 3) := by decide +kernel
theorem dX9_truly_58 : decode cX9_truly 58 = .ok (.iload_n 2, 1) := by decide +kernel
theorem dX9_truly_59 : decode cX9_truly 59 = .ok (.iconst 1, 1) := by decide +kernel
theorem dX9_truly_60 : decode cX9_truly 60 = .ok (.iload_n 3, 1) := by decide +kernel
theorem dX9_truly_61 : decode cX9_truly 61 = .ok (.ishl, 1) := by decide +kernel
theorem dX9_truly_62 : decode cX9_truly 62 = .ok (.ior, 1) := by decide +kernel
theorem dX9_truly_63 : decode cX9_truly 63 = .ok (.istore_n 2, 1) := by decide +kernel
theorem dX9_truly_64 : decode cX9_truly 64 = .ok (.iinc 3 1, 3) := by decide +kernel
theorem dX9_truly_67 : decode cX9_truly 67 = .ok (.goto (-36), 3) := by decide +kernel
theorem dX9_truly_70 : decode cX9_truly 70 = .ok (.iload_n 2, 1) := by decide +kernel
theorem dX9_truly_71 : decode cX9_truly 71 = .ok (.ireturn, 1) := by decide +kernel
theorem dX9_odds_0 : decode cX9_odds 0 = .ok (.aload_n 0, 1) := by decide +kernel
theorem dX9_odds_1 : decode cX9_odds 1 = .ok (.getfield 19, 3) := by decide +kernel
theorem dX9_odds_4 : decode cX9_odds 4 = .ok (.iload_n 1, 1) := by decide +kernel
theorem dX9_odds_5 : decode cX9_odds 5 = .ok (.invokevirtual 148, 3) := by decide +kernel
theorem dX9_odds_8 : decode cX9_odds 8 = .ok (.ifCond .ne 5, 3) := by decide +kernel
theorem dX9_odds_11 : decode cX9_odds 11 = .ok (.iconst (-1), 1) := by decide +kernel
theorem dX9_odds_12 : decode cX9_odds 12 = .ok (.ireturn, 1) := by decide +kernel
theorem dX9_odds_13 : decode cX9_odds 13 = .ok (.aload_n 0, 1) := by decide +kernel
theorem dX9_odds_14 : decode cX9_odds 14 = .ok (.invokevirtual 340, 3) := by decide +kernel
theorem dX9_odds_17 : decode cX9_odds 17 = .ok (.lstore_n 2, 1) := by decide +kernel
theorem dX9_odds_18 : decode cX9_odds 18 = .ok (.aload_n 0, 1) := by decide +kernel
theorem dX9_odds_19 : decode cX9_odds 19 = .ok (.invokevirtual 192, 3) := by decide +kernel
theorem dX9_odds_22 : decode cX9_odds 22 = .ok (.aload_n 0, 1) := by decide +kernel
theorem dX9_odds_23 : decode cX9_odds 23 = .ok (.aload_n 0, 1) := by decide +kernel
theorem dX9_odds_24 : decode cX9_odds 24 = .ok (.getfield 55, 3) := by decide +kernel
theorem dX9_odds_27 : decode cX9_odds 27 = .ok (.iload_n 1, 1) := by decide +kernel
theorem dX9_odds_28 : decode cX9_odds 28 = .ok (.laload, 1) := by decide +kernel
theorem dX9_odds_29 : decode cX9_odds 29 = .ok (.lload_n 2, 1) := by decide +kernel
theorem dX9_odds_30 : decode cX9_odds 30 = .ok (.invokevirtual 344, 3) := by decide +kernel
theorem dX9_odds_33 : decode cX9_odds 33 = .ok (.iconst 0, 1) := by decide +kernel
theorem dX9_odds_34 : decode cX9_odds 34 = .ok (.ireturn, 1) := by decide +kernel
theorem dX9_likely_0 : decode cX9_likely 0 = .ok (.aload_n 0, 1) := by decide +kernel
theorem dX9_likely_1 : decode cX9_likely 1 = .ok (.invokevirtual 340, 3) := by decide +kernel
theorem dX9_likely_4 : decode cX9_likely 4 = .ok (.lstore_n 1, 1) := by decide +kernel
theorem dX9_likely_5 : decode cX9_likely 5 = .ok (.iconst 0, 1) := by decide +kernel
theorem dX9_likely_6 : decode cX9_likely 6 = .ok (.istore_n 3, 1) := by decide +kernel
theorem dX9_likely_7 : decode cX9_likely 7 = .ok (.iconst 1, 1) := by decide +kernel
theorem dX9_likely_8 : decode cX9_likely 8 = .ok (.istore 4, 2) := by decide +kernel
theorem dX9_likely_10 : decode cX9_likely 10 = .ok (.iload 4, 2) := by decide +kernel
theorem dX9_likely_12 : decode cX9_likely 12 = .ok (.aload_n 0, 1) := by decide +kernel
theorem dX9_likely_13 : decode cX9_likely 13 = .ok (.getfield 19, 3) := by decide +kernel
theorem dX9_likely_16 : decode cX9_likely 16 = .ok (.getfield 229, 3) := by decide +kernel
theorem dX9_likely_19 : decode cX9_likely 19 = .ok (.if_icmp .ge 29, 3) := by decide +kernel
theorem dX9_likely_22 : decode cX9_likely 22 = .ok (.aload_n 0, 1) := by decide +kernel
theorem dX9_likely_23 : decode cX9_likely 23 = .ok (.getfield 55, 3) := by decide +kernel
theorem dX9_likely_26 : decode cX9_likely 26 = .ok (.iload 4, 2) := by decide +kernel
theorem dX9_likely_28 : decode cX9_likely 28 = .ok (.laload, 1) := by decide +kernel
theorem dX9_likely_29 : decode cX9_likely 29 = .ok (.aload_n 0, 1) := by decide +kernel
theorem dX9_likely_30 : decode cX9_likely 30 = .ok (.getfield 55, 3) := by decide +kernel
theorem dX9_likely_33 : decode cX9_likely 33 = .ok (.iload_n 3, 1) := by decide +kernel
theorem dX9_likely_34 : decode cX9_likely 34 = .ok (.laload, 1) := by decide +kernel
theorem dX9_likely_35 : decode cX9_likely 35 = .ok (.lcmp, 1) := by decide +kernel
theorem dX9_likely_36 : decode cX9_likely 36 = .ok (.ifCond .le 6, 3) := by decide +kernel
theorem dX9_likely_39 : decode cX9_likely 39 = .ok (.iload 4, 2) := by decide +kernel
theorem dX9_likely_41 : decode cX9_likely 41 = .ok (.istore_n 3, 1) := by decide +kernel
theorem dX9_likely_42 : decode cX9_likely 42 = .ok (.iinc 4 1, 3) := by decide +kernel
theorem dX9_likely_45 : decode cX9_likely 45 = .ok (.goto (-35), 3) := by decide +kernel
theorem dX9_likely_48 : decode cX9_likely 48 = .ok (.aload_n 0, 1) := by decide +kernel
theorem dX9_likely_49 : decode cX9_likely 49 = .ok (.invokevirtual 192, 3) := by decide +kernel
theorem dX9_likely_52 : decode cX9_likely 52 = .ok (.aload_n 0, 1) := by decide +kernel
theorem dX9_likely_53 : decode cX9_likely 53 = .ok (.aload_n 0, 1) := by decide +kernel
theorem dX9_likely_54 : decode cX9_likely 54 = .ok (.getfield 55, 3) := by decide +kernel
theorem dX9_likely_57 : decode cX9_likely 57 = .ok (.iload_n 3, 1) := by decide +kernel
theorem dX9_likely_58 : decode cX9_likely 58 = .ok (.laload, 1) := by decide +kernel
theorem dX9_likely_59 : decode cX9_likely 59 = .ok (.lload_n 1, 1) := by decide +kernel
theorem dX9_likely_60 : decode cX9_likely 60 = .ok (.invokevirtual 344, 3) := by decide +kernel
theorem dX9_likely_63 : decode cX9_likely 63 = .ok (.iload_n 3, 1) := by decide +kernel
theorem dX9_likely_64 : decode cX9_likely 64 = .ok (.ireturn, 1) := by decide +kernel
theorem dX9_split_0 : decode cX9_split 0 = .ok (.aload_n 0, 1) := by decide +kernel
theorem dX9_split_1 : decode cX9_split 1 = .ok (.getfield 26, 3) := by decide +kernel
theorem dX9_split_4 : decode cX9_split 4 = .ok (.aload_n 0, 1) := by decide +kernel
theorem dX9_split_5 : decode cX9_split 5 = .ok (.getfield 26, 3) := by decide +kernel
theorem dX9_split_8 : decode cX9_split 8 = .ok (.getfield 97, 3) := by decide +kernel
theorem dX9_split_11 : decode cX9_split 11 = .ok (.invokevirtual 222, 3) := by decide +kernel
theorem dX9_split_14 : decode cX9_split 14 = .ok (.istore_n 1, 1) := by decide +kernel
theorem dX9_split_15 : decode cX9_split 15 = .ok (.iload_n 1, 1) := by decide +kernel
theorem dX9_split_16 : decode cX9_split 16 = .ok (.invokestatic 246, 3) := by decide +kernel
theorem dX9_split_19 : decode cX9_split 19 = .ok (.istore_n 2, 1) := by decide +kernel
theorem dX9_split_20 : decode cX9_split 20 = .ok (.iconst (-1), 1) := by decide +kernel
theorem dX9_split_21 : decode cX9_split 21 = .ok (.istore_n 3, 1) := by decide +kernel
theorem dX9_split_22 : decode cX9_split 22 = .ok (.iconst 0, 1) := by decide +kernel
theorem dX9_split_23 : decode cX9_split 23 = .ok (.istore 4, 2) := by decide +kernel
theorem dX9_split_25 : decode cX9_split 25 = .ok (.iconst 0, 1) := by decide +kernel
theorem dX9_split_26 : decode cX9_split 26 = .ok (.istore 5, 2) := by decide +kernel
theorem dX9_split_28 : decode cX9_split 28 = .ok (.iconst 0, 1) := by decide +kernel
theorem dX9_split_29 : decode cX9_split 29 = .ok (.istore 6, 2) := by decide +kernel
theorem dX9_split_31 : decode cX9_split 31 = .ok (.iload 6, 2) := by decide +kernel
theorem dX9_split_33 : decode cX9_split 33 = .ok (.iload_n 2, 1) := by decide +kernel
theorem dX9_split_34 : decode cX9_split 34 = .ok (.if_icmp .ge 91, 3) := by decide +kernel
theorem dX9_split_37 : decode cX9_split 37 = .ok (.aload_n 0, 1) := by decide +kernel
theorem dX9_split_38 : decode cX9_split 38 = .ok (.getfield 19, 3) := by decide +kernel
theorem dX9_split_41 : decode cX9_split 41 = .ok (.iload 5, 2) := by decide +kernel
theorem dX9_split_43 : decode cX9_split 43 = .ok (.aload_n 0, 1) := by decide +kernel
theorem dX9_split_44 : decode cX9_split 44 = .ok (.getfield 19, 3) := by decide +kernel
theorem dX9_split_47 : decode cX9_split 47 = .ok (.aload_n 0, 1) := by decide +kernel
theorem dX9_split_48 : decode cX9_split 48 = .ok (.getfield 26, 3) := by decide +kernel
theorem dX9_split_51 : decode cX9_split 51 = .ok (.iload 5, 2) := by decide +kernel
theorem dX9_split_53 : decode cX9_split 53 = .ok (.invokevirtual 218, 3) := by decide +kernel
theorem dX9_split_56 : decode cX9_split 56 = .ok (.invokevirtual 348, 3) := by decide +kernel
theorem dX9_split_59 : decode cX9_split 59 = .ok (.aload_n 0, 1) := by decide +kernel
theorem dX9_split_60 : decode cX9_split 60 = .ok (.getfield 19, 3) := by decide +kernel
theorem dX9_split_63 : decode cX9_split 63 = .ok (.iload_n 1, 1) := by decide +kernel
theorem dX9_split_64 : decode cX9_split 64 = .ok (.iload 5, 2) := by decide +kernel
theorem dX9_split_66 : decode cX9_split 66 = .ok (.iconst (-1), 1) := by decide +kernel
theorem dX9_split_67 : decode cX9_split 67 = .ok (.ixor, 1) := by decide +kernel
theorem dX9_split_68 : decode cX9_split 68 = .ok (.iand, 1) := by decide +kernel
theorem dX9_split_69 : decode cX9_split 69 = .ok (.aload_n 0, 1) := by decide +kernel
theorem dX9_split_70 : decode cX9_split 70 = .ok (.getfield 19, 3) := by decide +kernel
theorem dX9_split_73 : decode cX9_split 73 = .ok (.aload_n 0, 1) := by decide +kernel
theorem dX9_split_74 : decode cX9_split 74 = .ok (.getfield 26, 3) := by decide +kernel
theorem dX9_split_77 : decode cX9_split 77 = .ok (.iload_n 1, 1) := by decide +kernel
theorem dX9_split_78 : decode cX9_split 78 = .ok (.iload 5, 2) := by decide +kernel
theorem dX9_split_80 : decode cX9_split 80 = .ok (.iconst (-1), 1) := by decide +kernel
theorem dX9_split_81 : decode cX9_split 81 = .ok (.ixor, 1) := by decide +kernel
theorem dX9_split_82 : decode cX9_split 82 = .ok (.iand, 1) := by decide +kernel
theorem dX9_split_83 : decode cX9_split 83 = .ok (.invokevirtual 218, 3) := by decide +kernel
theorem dX9_split_86 : decode cX9_split 86 = .ok (.invokevirtual 348, 3) := by decide +kernel
theorem dX9_split_89 : decode cX9_split 89 = .ok (.ior, 1) := by decide +kernel
theorem dX9_split_90 : decode cX9_split 90 = .ok (.istore 7, 2) := by decide +kernel
theorem dX9_split_92 : decode cX9_split 92 = .ok (.iload 7, 2) := by decide +kernel
theorem dX9_split_94 : decode cX9_split 94 = .ok (.invokestatic 272, 3) := by decide +kernel
theorem dX9_split_97 : decode cX9_split 97 = .ok (.iload_n 3, 1) := by decide +kernel
theorem dX9_split_98 : decode cX9_split 98 = .ok (.if_icmp .le 13, 3) := by decide +kernel
theorem dX9_split_101 : decode cX9_split 101 = .ok (.iload 7, 2) := by decide +kernel
theorem dX9_split_103 : decode cX9_split 103 = .ok (.invokestatic 272, 3) := by decide +kernel
theorem dX9_split_106 : decode cX9_split 106 = .ok (.istore_n 3, 1) := by decide +kernel
theorem dX9_split_107 : decode cX9_split 107 = .ok (.iload 5, 2) := by decide +kernel
theorem dX9_split_109 : decode cX9_split 109 = .ok (.istore 4, 2) := by decide +kernel
theorem dX9_split_111 : decode cX9_split 111 = .ok (.iload 5, 2) := by decide +kernel
theorem dX9_split_113 : decode cX9_split 113 = .ok (.iload_n 1, 1) := by decide +kernel
theorem dX9_split_114 : decode cX9_split 114 = .ok (.invokestatic 253, 3) := by decide +kernel
theorem dX9_split_117 : decode cX9_split 117 = .ok (.istore 5, 2) := by decide +kernel
theorem dX9_split_119 : decode cX9_split 119 = .ok (.iinc 6 1, 3) := by decide +kernel
theorem dX9_split_122 : decode cX9_split 122 = .ok (.goto (-91), 3) := by decide +kernel
theorem dX9_split_125 : decode cX9_split 125 = .ok (.aload_n 0, 1) := by decide +kernel
theorem dX9_split_126 : decode cX9_split 126 = .ok (.invokevirtual 192, 3) := by decide +kernel
theorem dX9_split_129 : decode cX9_split 129 = .ok (.aload_n 0, 1) := by decide +kernel
theorem dX9_split_130 : decode cX9_split 130 = .ok (.iload 4, 2) := by decide +kernel
theorem dX9_split_132 : decode cX9_split 132 = .ok (.i2l, 1) := by decide +kernel
theorem dX9_split_133 : decode cX9_split 133 = .ok (.invokevirtual 195, 3) := by decide +kernel
theorem dX9_split_136 : decode cX9_split 136 = .ok (.aload_n 0, 1) := by decide +kernel
theorem dX9_split_137 : decode cX9_split 137 = .ok (.aload_n 0, 1) := by decide +kernel
theorem dX9_split_138 : decode cX9_split 138 = .ok (.getfield 19, 3) := by decide +kernel
theorem dX9_split_141 : decode cX9_split 141 = .ok (.aload_n 0, 1) := by decide +kernel
theorem dX9_split_142 : decode cX9_split 142 = .ok (.getfield 26, 3) := by decide +kernel
theorem dX9_split_145 : decode cX9_split 145 = .ok (.iload 4, 2) := by decide +kernel
theorem dX9_split_147 : decode cX9_split 147 = .ok (.invokevirtual 218, 3) := by decide +kernel
theorem dX9_split_150 : decode cX9_split 150 = .ok (.i2l, 1) := by decide +kernel
theorem dX9_split_151 : decode cX9_split 151 = .ok (.invokevirtual 195, 3) := by decide +kernel
theorem dX9_split_154 : decode cX9_split 154 = .ok (.aload_n 0, 1) := by decide +kernel
theorem dX9_split_155 : decode cX9_split 155 = .ok (.aload_n 0, 1) := by decide +kernel
theorem dX9_split_156 : decode cX9_split 156 = .ok (.getfield 19, 3) := by decide +kernel
theorem dX9_split_159 : decode cX9_split 159 = .ok (.aload_n 0, 1) := by decide +kernel
theorem dX9_split_160 : decode cX9_split 160 = .ok (.getfield 26, 3) := by decide +kernel
theorem dX9_split_163 : decode cX9_split 163 = .ok (.iload_n 1, 1) := by decide +kernel
theorem dX9_split_164 : decode cX9_split 164 = .ok (.iload 4, 2) := by decide +kernel
theorem dX9_split_166 : decode cX9_split 166 = .ok (.iconst (-1), 1) := by decide +kernel
theorem dX9_split_167 : decode cX9_split 167 = .ok (.ixor, 1) := by decide +kernel
theorem dX9_split_168 : decode cX9_split 168 = .ok (.iand, 1) := by decide +kernel
theorem dX9_split_169 : decode cX9_split 169 = .ok (.invokevirtual 218, 3) := by decide +kernel
theorem dX9_split_172 : decode cX9_split 172 = .ok (.i2l, 1) := by decide +kernel
theorem dX9_split_173 : decode cX9_split 173 = .ok (.invokevirtual 195, 3) := by decide +kernel
theorem dX9_split_176 : decode cX9_split 176 = .ok (.iload_n 3, 1) := by decide +kernel
theorem dX9_split_177 : decode cX9_split 177 = .ok (.ireturn, 1) := by decide +kernel
theorem dX9_keep_0 : decode cX9_keep 0 = .ok (.iload_n 1, 1) := by decide +kernel
theorem dX9_keep_1 : decode cX9_keep 1 = .ok (.ifCond .lt 8, 3) := by decide +kernel
theorem dX9_keep_4 : decode cX9_keep 4 = .ok (.iload_n 1, 1) := by decide +kernel
theorem dX9_keep_5 : decode cX9_keep 5 = .ok (.iconst 3, 1) := by decide +kernel
theorem dX9_keep_6 : decode cX9_keep 6 = .ok (.if_icmp .lt 5, 3) := by decide +kernel
theorem dX9_keep_9 : decode cX9_keep 9 = .ok (.iconst 0, 1) := by decide +kernel
theorem dX9_keep_10 : decode cX9_keep 10 = .ok (.ireturn, 1) := by decide +kernel
theorem dX9_keep_11 : decode cX9_keep 11 = .ok (.aload_n 0, 1) := by decide +kernel
theorem dX9_keep_12 : decode cX9_keep 12 = .ok (.getfield 40, 3) := by decide +kernel
theorem dX9_keep_15 : decode cX9_keep 15 = .ok (.iload_n 1, 1) := by decide +kernel
theorem dX9_keep_16 : decode cX9_keep 16 = .ok (.aaload, 1) := by decide +kernel
theorem dX9_keep_17 : decode cX9_keep 17 = .ok (.aload_n 0, 1) := by decide +kernel
theorem dX9_keep_18 : decode cX9_keep 18 = .ok (.getfield 26, 3) := by decide +kernel
theorem dX9_keep_21 : decode cX9_keep 21 = .ok (.invokevirtual 259, 3) := by decide +kernel
theorem dX9_keep_24 : decode cX9_keep 24 = .ok (.aload_n 0, 1) := by decide +kernel
theorem dX9_keep_25 : decode cX9_keep 25 = .ok (.getfield 44, 3) := by decide +kernel
theorem dX9_keep_28 : decode cX9_keep 28 = .ok (.iload_n 1, 1) := by decide +kernel
theorem dX9_keep_29 : decode cX9_keep 29 = .ok (.iconst 1, 1) := by decide +kernel
theorem dX9_keep_30 : decode cX9_keep 30 = .ok (.bastore, 1) := by decide +kernel
theorem dX9_keep_31 : decode cX9_keep 31 = .ok (.iconst 1, 1) := by decide +kernel
theorem dX9_keep_32 : decode cX9_keep 32 = .ok (.ireturn, 1) := by decide +kernel
theorem dX9_again_0 : decode cX9_again 0 = .ok (.iload_n 1, 1) := by decide +kernel
theorem dX9_again_1 : decode cX9_again 1 = .ok (.ifCond .lt 17, 3) := by decide +kernel
theorem dX9_again_4 : decode cX9_again 4 = .ok (.iload_n 1, 1) := by decide +kernel
theorem dX9_again_5 : decode cX9_again 5 = .ok (.iconst 3, 1) := by decide +kernel
theorem dX9_again_6 : decode cX9_again 6 = .ok (.if_icmp .ge 12, 3) := by decide +kernel
theorem dX9_again_9 : decode cX9_again 9 = .ok (.aload_n 0, 1) := by decide +kernel
theorem dX9_again_10 : decode cX9_again 10 = .ok (.getfield 44, 3) := by decide +kernel
theorem dX9_again_13 : decode cX9_again 13 = .ok (.iload_n 1, 1) := by decide +kernel
theorem dX9_again_14 : decode cX9_again 14 = .ok (.baload, 1) := by decide +kernel
theorem dX9_again_15 : decode cX9_again 15 = .ok (.ifCond .ne 5, 3) := by decide +kernel
theorem dX9_again_18 : decode cX9_again 18 = .ok (.iconst 0, 1) := by decide +kernel
theorem dX9_again_19 : decode cX9_again 19 = .ok (.ireturn, 1) := by decide +kernel
theorem dX9_again_20 : decode cX9_again 20 = .ok (.aload_n 0, 1) := by decide +kernel
theorem dX9_again_21 : decode cX9_again 21 = .ok (.getfield 26, 3) := by decide +kernel
theorem dX9_again_24 : decode cX9_again 24 = .ok (.aload_n 0, 1) := by decide +kernel
theorem dX9_again_25 : decode cX9_again 25 = .ok (.getfield 40, 3) := by decide +kernel
theorem dX9_again_28 : decode cX9_again 28 = .ok (.iload_n 1, 1) := by decide +kernel
theorem dX9_again_29 : decode cX9_again 29 = .ok (.aaload, 1) := by decide +kernel
theorem dX9_again_30 : decode cX9_again 30 = .ok (.invokevirtual 259, 3) := by decide +kernel
theorem dX9_again_33 : decode cX9_again 33 = .ok (.aload_n 0, 1) := by decide +kernel
theorem dX9_again_34 : decode cX9_again 34 = .ok (.getfield 36, 3) := by decide +kernel
theorem dX9_again_37 : decode cX9_again 37 = .ok (.iconst 0, 1) := by decide +kernel
theorem dX9_again_38 : decode cX9_again 38 = .ok (.putfield 217, 3) := by decide +kernel
theorem dX9_again_41 : decode cX9_again 41 = .ok (.iconst 1, 1) := by decide +kernel
theorem dX9_again_42 : decode cX9_again 42 = .ok (.ireturn, 1) := by decide +kernel
theorem dX9_count_0 : decode cX9_count 0 = .ok (.iload_n 1, 1) := by decide +kernel
theorem dX9_count_1 : decode cX9_count 1 = .ok (.tableswitch 182 0 11 #[63, 71, 79, 87, 95, 103, 128, 145, 153, 161, 169, 174], 63) := by decide +kernel
theorem dX9_count_64 : decode cX9_count 64 = .ok (.aload_n 0, 1) := by decide +kernel
theorem dX9_count_65 : decode cX9_count 65 = .ok (.getfield 19, 3) := by decide +kernel
theorem dX9_count_68 : decode cX9_count 68 = .ok (.getfield 229, 3) := by decide +kernel
theorem dX9_count_71 : decode cX9_count 71 = .ok (.ireturn, 1) := by decide +kernel
theorem dX9_count_72 : decode cX9_count 72 = .ok (.aload_n 0, 1) := by decide +kernel
theorem dX9_count_73 : decode cX9_count 73 = .ok (.getfield 19, 3) := by decide +kernel
theorem dX9_count_76 : decode cX9_count 76 = .ok (.getfield 154, 3) := by decide +kernel
theorem dX9_count_79 : decode cX9_count 79 = .ok (.ireturn, 1) := by decide +kernel
theorem dX9_count_80 : decode cX9_count 80 = .ok (.aload_n 0, 1) := by decide +kernel
theorem dX9_count_81 : decode cX9_count 81 = .ok (.getfield 26, 3) := by decide +kernel
theorem dX9_count_84 : decode cX9_count 84 = .ok (.getfield 97, 3) := by decide +kernel
theorem dX9_count_87 : decode cX9_count 87 = .ok (.ireturn, 1) := by decide +kernel
theorem dX9_count_88 : decode cX9_count 88 = .ok (.aload_n 0, 1) := by decide +kernel
theorem dX9_count_89 : decode cX9_count 89 = .ok (.getfield 26, 3) := by decide +kernel
theorem dX9_count_92 : decode cX9_count 92 = .ok (.getfield 351, 3) := by decide +kernel
theorem dX9_count_95 : decode cX9_count 95 = .ok (.ireturn, 1) := by decide +kernel
theorem dX9_count_96 : decode cX9_count 96 = .ok (.aload_n 0, 1) := by decide +kernel
theorem dX9_count_97 : decode cX9_count 97 = .ok (.getfield 26, 3) := by decide +kernel
theorem dX9_count_100 : decode cX9_count 100 = .ok (.getfield 142, 3) := by decide +kernel
theorem dX9_count_103 : decode cX9_count 103 = .ok (.ireturn, 1) := by decide +kernel
theorem dX9_count_104 : decode cX9_count 104 = .ok (.aload_n 0, 1) := by decide +kernel
theorem dX9_count_105 : decode cX9_count 105 = .ok (.getfield 26, 3) := by decide +kernel
theorem dX9_count_108 : decode cX9_count 108 = .ok (.aload_n 0, 1) := by decide +kernel
theorem dX9_count_109 : decode cX9_count 109 = .ok (.getfield 26, 3) := by decide +kernel
theorem dX9_count_112 : decode cX9_count 112 = .ok (.getfield 97, 3) := by decide +kernel
theorem dX9_count_115 : decode cX9_count 115 = .ok (.invokevirtual 222, 3) := by decide +kernel
theorem dX9_count_118 : decode cX9_count 118 = .ok (.aload_n 0, 1) := by decide +kernel
theorem dX9_count_119 : decode cX9_count 119 = .ok (.getfield 26, 3) := by decide +kernel
theorem dX9_count_122 : decode cX9_count 122 = .ok (.getfield 142, 3) := by decide +kernel
theorem dX9_count_125 : decode cX9_count 125 = .ok (.iconst (-1), 1) := by decide +kernel
theorem dX9_count_126 : decode cX9_count 126 = .ok (.ixor, 1) := by decide +kernel
theorem dX9_count_127 : decode cX9_count 127 = .ok (.iand, 1) := by decide +kernel
theorem dX9_count_128 : decode cX9_count 128 = .ok (.ireturn, 1) := by decide +kernel
theorem dX9_count_129 : decode cX9_count 129 = .ok (.aload_n 0, 1) := by decide +kernel
theorem dX9_count_130 : decode cX9_count 130 = .ok (.getfield 26, 3) := by decide +kernel
theorem dX9_count_133 : decode cX9_count 133 = .ok (.iconst (-1), 1) := by decide +kernel
theorem dX9_count_134 : decode cX9_count 134 = .ok (.invokevirtual 222, 3) := by decide +kernel
theorem dX9_count_137 : decode cX9_count 137 = .ok (.aload_n 0, 1) := by decide +kernel
theorem dX9_count_138 : decode cX9_count 138 = .ok (.getfield 19, 3) := by decide +kernel
theorem dX9_count_141 : decode cX9_count 141 = .ok (.invokevirtual 284, 3) := by decide +kernel
theorem dX9_count_144 : decode cX9_count 144 = .ok (.iand, 1) := by decide +kernel
theorem dX9_count_145 : decode cX9_count 145 = .ok (.ireturn, 1) := by decide +kernel
theorem dX9_count_146 : decode cX9_count 146 = .ok (.aload_n 0, 1) := by decide +kernel
theorem dX9_count_147 : decode cX9_count 147 = .ok (.getfield 19, 3) := by decide +kernel
theorem dX9_count_150 : decode cX9_count 150 = .ok (.getfield 161, 3) := by decide +kernel
theorem dX9_count_153 : decode cX9_count 153 = .ok (.ireturn, 1) := by decide +kernel
theorem dX9_count_154 : decode cX9_count 154 = .ok (.aload_n 0, 1) := by decide +kernel
theorem dX9_count_155 : decode cX9_count 155 = .ok (.getfield 36, 3) := by decide +kernel
theorem dX9_count_158 : decode cX9_count 158 = .ok (.getfield 217, 3) := by decide +kernel
theorem dX9_count_161 : decode cX9_count 161 = .ok (.ireturn, 1) := by decide +kernel
theorem dX9_count_162 : decode cX9_count 162 = .ok (.aload_n 0, 1) := by decide +kernel
theorem dX9_count_163 : decode cX9_count 163 = .ok (.getfield 51, 3) := by decide +kernel
theorem dX9_count_166 : decode cX9_count 166 = .ok (.getfield 93, 3) := by decide +kernel
theorem dX9_count_169 : decode cX9_count 169 = .ok (.ireturn, 1) := by decide +kernel
theorem dX9_count_170 : decode cX9_count 170 = .ok (.aload_n 0, 1) := by decide +kernel
theorem dX9_count_171 : decode cX9_count 171 = .ok (.getfield 62, 3) := by decide +kernel
theorem dX9_count_174 : decode cX9_count 174 = .ok (.ireturn, 1) := by decide +kernel
theorem dX9_count_175 : decode cX9_count 175 = .ok (.aload_n 0, 1) := by decide +kernel
theorem dX9_count_176 : decode cX9_count 176 = .ok (.getfield 12, 3) := by decide +kernel
theorem dX9_count_179 : decode cX9_count 179 = .ok (.getfield 80, 3) := by decide +kernel
theorem dX9_count_182 : decode cX9_count 182 = .ok (.ireturn, 1) := by decide +kernel
theorem dX9_count_183 : decode cX9_count 183 = .ok (.bipush (-100), 2) := by decide +kernel
theorem dX9_count_185 : decode cX9_count 185 = .ok (.ireturn, 1) := by decide +kernel
theorem dX9_row_0 : decode cX9_row 0 = .ok (.iload_n 1, 1) := by decide +kernel
theorem dX9_row_1 : decode cX9_row 1 = .ok (.ifCond .lt 11, 3) := by decide +kernel
theorem dX9_row_4 : decode cX9_row 4 = .ok (.iload_n 1, 1) := by decide +kernel
theorem dX9_row_5 : decode cX9_row 5 = .ok (.aload_n 0, 1) := by decide +kernel
theorem dX9_row_6 : decode cX9_row 6 = .ok (.getfield 62, 3) := by decide +kernel
theorem dX9_row_9 : decode cX9_row 9 = .ok (.if_icmp .lt 11, 3) := by decide +kernel
theorem dX9_row_12 : decode cX9_row 12 = .ok (.new 126, 3) := by decide +kernel
theorem dX9_row_15 : decode cX9_row 15 = .ok (.dup, 1) := by decide +kernel
theorem dX9_row_16 : decode cX9_row 16 = .ok (.invokespecial 128, 3) := by decide +kernel
theorem dX9_row_19 : decode cX9_row 19 = .ok (.athrow, 1) := by decide +kernel
theorem dX9_row_20 : decode cX9_row 20 = .ok (.aload_n 0, 1) := by decide +kernel
theorem dX9_row_21 : decode cX9_row 21 = .ok (.getfield 59, 3) := by decide +kernel
theorem dX9_row_24 : decode cX9_row 24 = .ok (.iload_n 1, 1) := by decide +kernel
theorem dX9_row_25 : decode cX9_row 25 = .ok (.laload, 1) := by decide +kernel
theorem dX9_row_26 : decode cX9_row 26 = .ok (.lreturn, 1) := by decide +kernel
theorem dX9_clearRow_0 : decode cX9_clearRow 0 = .ok (.aload_n 0, 1) := by decide +kernel
theorem dX9_clearRow_1 : decode cX9_clearRow 1 = .ok (.iconst 0, 1) := by decide +kernel
theorem dX9_clearRow_2 : decode cX9_clearRow 2 = .ok (.putfield 62, 3) := by decide +kernel
theorem dX9_clearRow_5 : decode cX9_clearRow 5 = .ok (.return_, 1) := by decide +kernel
theorem dX9_tell_0 : decode cX9_tell 0 = .ok (.aload_n 0, 1) := by decide +kernel
theorem dX9_tell_1 : decode cX9_tell 1 = .ok (.getfield 62, 3) := by decide +kernel
theorem dX9_tell_4 : decode cX9_tell 4 = .ok (.bipush 12, 2) := by decide +kernel
theorem dX9_tell_6 : decode cX9_tell 6 = .ok (.if_icmp .ge 23, 3) := by decide +kernel
theorem dX9_tell_9 : decode cX9_tell 9 = .ok (.aload_n 0, 1) := by decide +kernel
theorem dX9_tell_10 : decode cX9_tell 10 = .ok (.getfield 59, 3) := by decide +kernel
theorem dX9_tell_13 : decode cX9_tell 13 = .ok (.aload_n 0, 1) := by decide +kernel
theorem dX9_tell_14 : decode cX9_tell 14 = .ok (.getfield 62, 3) := by decide +kernel
theorem dX9_tell_17 : decode cX9_tell 17 = .ok (.lload_n 1, 1) := by decide +kernel
theorem dX9_tell_18 : decode cX9_tell 18 = .ok (.lastore, 1) := by decide +kernel
theorem dX9_tell_19 : decode cX9_tell 19 = .ok (.aload_n 0, 1) := by decide +kernel
theorem dX9_tell_20 : decode cX9_tell 20 = .ok (.dup, 1) := by decide +kernel
theorem dX9_tell_21 : decode cX9_tell 21 = .ok (.getfield 62, 3) := by decide +kernel
theorem dX9_tell_24 : decode cX9_tell 24 = .ok (.iconst 1, 1) := by decide +kernel
theorem dX9_tell_25 : decode cX9_tell 25 = .ok (.iadd, 1) := by decide +kernel
theorem dX9_tell_26 : decode cX9_tell 26 = .ok (.putfield 62, 3) := by decide +kernel
theorem dX9_tell_29 : decode cX9_tell 29 = .ok (.return_, 1) := by decide +kernel
theorem dX9_tellFraction_0 : decode cX9_tellFraction 0 = .ok (.lload_n 1, 1) := by decide +kernel
theorem dX9_tellFraction_1 : decode cX9_tellFraction 1 = .ok (.lstore 5, 2) := by decide +kernel
theorem dX9_tellFraction_3 : decode cX9_tellFraction 3 = .ok (.lload_n 3, 1) := by decide +kernel
theorem dX9_tellFraction_4 : decode cX9_tellFraction 4 = .ok (.lstore 7, 2) := by decide +kernel
theorem dX9_tellFraction_6 : decode cX9_tellFraction 6 = .ok (.iconst 0, 1) := by decide +kernel
theorem dX9_tellFraction_7 : decode cX9_tellFraction 7 = .ok (.istore 9, 2) := by decide +kernel
theorem dX9_tellFraction_9 : decode cX9_tellFraction 9 = .ok (.iload 9, 2) := by decide +kernel
theorem dX9_tellFraction_11 : decode cX9_tellFraction 11 = .ok (.sipush 128, 3) := by decide +kernel
theorem dX9_tellFraction_14 : decode cX9_tellFraction 14 = .ok (.if_icmp .ge 31, 3) := by decide +kernel
theorem dX9_tellFraction_17 : decode cX9_tellFraction 17 = .ok (.lload 7, 2) := by decide +kernel
theorem dX9_tellFraction_19 : decode cX9_tellFraction 19 = .ok (.lconst 0, 1) := by decide +kernel
theorem dX9_tellFraction_20 : decode cX9_tellFraction 20 = .ok (.lcmp, 1) := by decide +kernel
theorem dX9_tellFraction_21 : decode cX9_tellFraction 21 = .ok (.ifCond .le 24, 3) := by decide +kernel
theorem dX9_tellFraction_24 : decode cX9_tellFraction 24 = .ok (.lload 5, 2) := by decide +kernel
theorem dX9_tellFraction_26 : decode cX9_tellFraction 26 = .ok (.lload 7, 2) := by decide +kernel
theorem dX9_tellFraction_28 : decode cX9_tellFraction 28 = .ok (.lrem, 1) := by decide +kernel
theorem dX9_tellFraction_29 : decode cX9_tellFraction 29 = .ok (.lstore 10, 2) := by decide +kernel
theorem dX9_tellFraction_31 : decode cX9_tellFraction 31 = .ok (.lload 7, 2) := by decide +kernel
theorem dX9_tellFraction_33 : decode cX9_tellFraction 33 = .ok (.lstore 5, 2) := by decide +kernel
theorem dX9_tellFraction_35 : decode cX9_tellFraction 35 = .ok (.lload 10, 2) := by decide +kernel
theorem dX9_tellFraction_37 : decode cX9_tellFraction 37 = .ok (.lstore 7, 2) := by decide +kernel
theorem dX9_tellFraction_39 : decode cX9_tellFraction 39 = .ok (.iinc 9 1, 3) := by decide +kernel
theorem dX9_tellFraction_42 : decode cX9_tellFraction 42 = .ok (.goto (-33), 3) := by decide +kernel
theorem dX9_tellFraction_45 : decode cX9_tellFraction 45 = .ok (.lload 5, 2) := by decide +kernel
theorem dX9_tellFraction_47 : decode cX9_tellFraction 47 = .ok (.lconst 0, 1) := by decide +kernel
theorem dX9_tellFraction_48 : decode cX9_tellFraction 48 = .ok (.lcmp, 1) := by decide +kernel
theorem dX9_tellFraction_49 : decode cX9_tellFraction 49 = .ok (.ifCond .le 19, 3) := by decide +kernel
theorem dX9_tellFraction_52 : decode cX9_tellFraction 52 = .ok (.aload_n 0, 1) := by decide +kernel
theorem dX9_tellFraction_53 : decode cX9_tellFraction 53 = .ok (.lload_n 1, 1) := by decide +kernel
theorem dX9_tellFraction_54 : decode cX9_tellFraction 54 = .ok (.lload 5, 2) := by decide +kernel
theorem dX9_tellFraction_56 : decode cX9_tellFraction 56 = .ok (.ldiv, 1) := by decide +kernel
theorem dX9_tellFraction_57 : decode cX9_tellFraction 57 = .ok (.invokevirtual 195, 3) := by decide +kernel
theorem dX9_tellFraction_60 : decode cX9_tellFraction 60 = .ok (.aload_n 0, 1) := by decide +kernel
theorem dX9_tellFraction_61 : decode cX9_tellFraction 61 = .ok (.lload_n 3, 1) := by decide +kernel
theorem dX9_tellFraction_62 : decode cX9_tellFraction 62 = .ok (.lload 5, 2) := by decide +kernel
theorem dX9_tellFraction_64 : decode cX9_tellFraction 64 = .ok (.ldiv, 1) := by decide +kernel
theorem dX9_tellFraction_65 : decode cX9_tellFraction 65 = .ok (.invokevirtual 195, 3) := by decide +kernel
theorem dX9_tellFraction_68 : decode cX9_tellFraction 68 = .ok (.return_, 1) := by decide +kernel
theorem dX9_setsOf_0 : decode cX9_setsOf 0 = .ok (.iconst 1, 1) := by decide +kernel
theorem dX9_setsOf_1 : decode cX9_setsOf 1 = .ok (.iload_n 0, 1) := by decide +kernel
theorem dX9_setsOf_2 : decode cX9_setsOf 2 = .ok (.invokestatic 272, 3) := by decide +kernel
theorem dX9_setsOf_5 : decode cX9_setsOf 5 = .ok (.ishl, 1) := by decide +kernel
theorem dX9_setsOf_6 : decode cX9_setsOf 6 = .ok (.ireturn, 1) := by decide +kernel
theorem dX9_nextSet_0 : decode cX9_nextSet 0 = .ok (.iload_n 0, 1) := by decide +kernel
theorem dX9_nextSet_1 : decode cX9_nextSet 1 = .ok (.iload_n 1, 1) := by decide +kernel
theorem dX9_nextSet_2 : decode cX9_nextSet 2 = .ok (.isub, 1) := by decide +kernel
theorem dX9_nextSet_3 : decode cX9_nextSet 3 = .ok (.iload_n 1, 1) := by decide +kernel
theorem dX9_nextSet_4 : decode cX9_nextSet 4 = .ok (.iand, 1) := by decide +kernel
theorem dX9_nextSet_5 : decode cX9_nextSet 5 = .ok (.ireturn, 1) := by decide +kernel
theorem dX9_takeLines_0 : decode cX9_takeLines 0 = .ok (.iconst 0, 1) := by decide +kernel
theorem dX9_takeLines_1 : decode cX9_takeLines 1 = .ok (.istore_n 1, 1) := by decide +kernel
theorem dX9_takeLines_2 : decode cX9_takeLines 2 = .ok (.iconst 0, 1) := by decide +kernel
theorem dX9_takeLines_3 : decode cX9_takeLines 3 = .ok (.istore_n 2, 1) := by decide +kernel
theorem dX9_takeLines_4 : decode cX9_takeLines 4 = .ok (.iload_n 2, 1) := by decide +kernel
theorem dX9_takeLines_5 : decode cX9_takeLines 5 = .ok (.iconst 5, 1) := by decide +kernel
theorem dX9_takeLines_6 : decode cX9_takeLines 6 = .ok (.iadd, 1) := by decide +kernel
theorem dX9_takeLines_7 : decode cX9_takeLines 7 = .ok (.aload_n 0, 1) := by decide +kernel
theorem dX9_takeLines_8 : decode cX9_takeLines 8 = .ok (.getfield 12, 3) := by decide +kernel
theorem dX9_takeLines_11 : decode cX9_takeLines 11 = .ok (.getfield 80, 3) := by decide +kernel
theorem dX9_takeLines_14 : decode cX9_takeLines 14 = .ok (.if_icmp .gt 114, 3) := by decide +kernel
theorem dX9_takeLines_17 : decode cX9_takeLines 17 = .ok (.aload_n 0, 1) := by decide +kernel
theorem dX9_takeLines_18 : decode cX9_takeLines 18 = .ok (.getfield 12, 3) := by decide +kernel
theorem dX9_takeLines_21 : decode cX9_takeLines 21 = .ok (.iload_n 2, 1) := by decide +kernel
theorem dX9_takeLines_22 : decode cX9_takeLines 22 = .ok (.invokevirtual 352, 3) := by decide +kernel
theorem dX9_takeLines_25 : decode cX9_takeLines 25 = .ok (.bipush 48, 2) := by decide +kernel
theorem dX9_takeLines_27 : decode cX9_takeLines 27 = .ok (.isub, 1) := by decide +kernel
theorem dX9_takeLines_28 : decode cX9_takeLines 28 = .ok (.istore_n 3, 1) := by decide +kernel
theorem dX9_takeLines_29 : decode cX9_takeLines 29 = .ok (.aload_n 0, 1) := by decide +kernel
theorem dX9_takeLines_30 : decode cX9_takeLines 30 = .ok (.getfield 12, 3) := by decide +kernel
theorem dX9_takeLines_33 : decode cX9_takeLines 33 = .ok (.iload_n 2, 1) := by decide +kernel
theorem dX9_takeLines_34 : decode cX9_takeLines 34 = .ok (.iconst 2, 1) := by decide +kernel
theorem dX9_takeLines_35 : decode cX9_takeLines 35 = .ok (.iadd, 1) := by decide +kernel
theorem dX9_takeLines_36 : decode cX9_takeLines 36 = .ok (.invokevirtual 352, 3) := by decide +kernel
theorem dX9_takeLines_39 : decode cX9_takeLines 39 = .ok (.bipush 45, 2) := by decide +kernel
theorem dX9_takeLines_41 : decode cX9_takeLines 41 = .ok (.if_icmp .ne 7, 3) := by decide +kernel
theorem dX9_takeLines_44 : decode cX9_takeLines 44 = .ok (.iconst (-1), 1) := by decide +kernel
theorem dX9_takeLines_45 : decode cX9_takeLines 45 = .ok (.goto 16, 3) := by decide +kernel
theorem dX9_takeLines_48 : decode cX9_takeLines 48 = .ok (.aload_n 0, 1) := by decide +kernel
theorem dX9_takeLines_49 : decode cX9_takeLines 49 = .ok (.getfield 12, 3) := by decide +kernel
theorem dX9_takeLines_52 : decode cX9_takeLines 52 = .ok (.iload_n 2, 1) := by decide +kernel
theorem dX9_takeLines_53 : decode cX9_takeLines 53 = .ok (.iconst 2, 1) := by decide +kernel
theorem dX9_takeLines_54 : decode cX9_takeLines 54 = .ok (.iadd, 1) := by decide +kernel
theorem dX9_takeLines_55 : decode cX9_takeLines 55 = .ok (.invokevirtual 352, 3) := by decide +kernel
theorem dX9_takeLines_58 : decode cX9_takeLines 58 = .ok (.bipush 48, 2) := by decide +kernel
theorem dX9_takeLines_60 : decode cX9_takeLines 60 = .ok (.isub, 1) := by decide +kernel
theorem dX9_takeLines_61 : decode cX9_takeLines 61 = .ok (.istore 4, 2) := by decide +kernel
theorem dX9_takeLines_63 : decode cX9_takeLines 63 = .ok (.aload_n 0, 1) := by decide +kernel
theorem dX9_takeLines_64 : decode cX9_takeLines 64 = .ok (.getfield 12, 3) := by decide +kernel
theorem dX9_takeLines_67 : decode cX9_takeLines 67 = .ok (.iload_n 2, 1) := by decide +kernel
theorem dX9_takeLines_68 : decode cX9_takeLines 68 = .ok (.iconst 5, 1) := by decide +kernel
theorem dX9_takeLines_69 : decode cX9_takeLines 69 = .ok (.iadd, 1) := by decide +kernel
theorem dX9_takeLines_70 : decode cX9_takeLines 70 = .ok (.invokevirtual 352, 3) := by decide +kernel
theorem dX9_takeLines_73 : decode cX9_takeLines 73 = .ok (.bipush 33, 2) := by decide +kernel
theorem dX9_takeLines_75 : decode cX9_takeLines 75 = .ok (.if_icmp .ne 7, 3) := by decide +kernel
theorem dX9_takeLines_78 : decode cX9_takeLines 78 = .ok (.iconst 1, 1) := by decide +kernel
theorem dX9_takeLines_79 : decode cX9_takeLines 79 = .ok (.goto 4, 3) := by decide +kernel
theorem dX9_takeLines_82 : decode cX9_takeLines 82 = .ok (.iconst 0, 1) := by decide +kernel
theorem dX9_takeLines_83 : decode cX9_takeLines 83 = .ok (.istore 5, 2) := by decide +kernel
theorem dX9_takeLines_85 : decode cX9_takeLines 85 = .ok (.aload_n 0, 1) := by decide +kernel
theorem dX9_takeLines_86 : decode cX9_takeLines 86 = .ok (.iload_n 3, 1) := by decide +kernel
theorem dX9_takeLines_87 : decode cX9_takeLines 87 = .ok (.iload 4, 2) := by decide +kernel
theorem dX9_takeLines_89 : decode cX9_takeLines 89 = .ok (.aload_n 0, 1) := by decide +kernel
theorem dX9_takeLines_90 : decode cX9_takeLines 90 = .ok (.getfield 12, 3) := by decide +kernel
theorem dX9_takeLines_93 : decode cX9_takeLines 93 = .ok (.iload_n 2, 1) := by decide +kernel
theorem dX9_takeLines_94 : decode cX9_takeLines 94 = .ok (.iconst 4, 1) := by decide +kernel
theorem dX9_takeLines_95 : decode cX9_takeLines 95 = .ok (.iadd, 1) := by decide +kernel
theorem dX9_takeLines_96 : decode cX9_takeLines 96 = .ok (.invokevirtual 352, 3) := by decide +kernel
theorem dX9_takeLines_99 : decode cX9_takeLines 99 = .ok (.bipush 48, 2) := by decide +kernel
theorem dX9_takeLines_101 : decode cX9_takeLines 101 = .ok (.isub, 1) := by decide +kernel
theorem dX9_takeLines_102 : decode cX9_takeLines 102 = .ok (.iload 5, 2) := by decide +kernel
theorem dX9_takeLines_104 : decode cX9_takeLines 104 = .ok (.invokevirtual 171, 3) := by decide +kernel
theorem dX9_takeLines_107 : decode cX9_takeLines 107 = .ok (.iinc 1 1, 3) := by decide +kernel
theorem dX9_takeLines_110 : decode cX9_takeLines 110 = .ok (.iload_n 2, 1) := by decide +kernel
theorem dX9_takeLines_111 : decode cX9_takeLines 111 = .ok (.iload 5, 2) := by decide +kernel
theorem dX9_takeLines_113 : decode cX9_takeLines 113 = .ok (.ifCond .eq 8, 3) := by decide +kernel
theorem dX9_takeLines_116 : decode cX9_takeLines 116 = .ok (.bipush 7, 2) := by decide +kernel
theorem dX9_takeLines_118 : decode cX9_takeLines 118 = .ok (.goto 5, 3) := by decide +kernel
theorem dX9_takeLines_121 : decode cX9_takeLines 121 = .ok (.bipush 6, 2) := by decide +kernel
theorem dX9_takeLines_123 : decode cX9_takeLines 123 = .ok (.iadd, 1) := by decide +kernel
theorem dX9_takeLines_124 : decode cX9_takeLines 124 = .ok (.istore_n 2, 1) := by decide +kernel
theorem dX9_takeLines_125 : decode cX9_takeLines 125 = .ok (.goto (-121), 3) := by decide +kernel
theorem dX9_takeLines_128 : decode cX9_takeLines 128 = .ok (.iload_n 1, 1) := by decide +kernel
theorem dX9_takeLines_129 : decode cX9_takeLines 129 = .ok (.ifCond .le 7, 3) := by decide +kernel
theorem dX9_takeLines_132 : decode cX9_takeLines 132 = .ok (.aload_n 0, 1) := by decide +kernel
theorem dX9_takeLines_133 : decode cX9_takeLines 133 = .ok (.invokevirtual 94, 3) := by decide +kernel
theorem dX9_takeLines_136 : decode cX9_takeLines 136 = .ok (.iload_n 1, 1) := by decide +kernel
theorem dX9_takeLines_137 : decode cX9_takeLines 137 = .ok (.ireturn, 1) := by decide +kernel
theorem dX9_addRider_0 : decode cX9_addRider 0 = .ok (.aload_n 0, 1) := by decide +kernel
theorem dX9_addRider_1 : decode cX9_addRider 1 = .ok (.getfield 19, 3) := by decide +kernel
theorem dX9_addRider_4 : decode cX9_addRider 4 = .ok (.getfield 154, 3) := by decide +kernel
theorem dX9_addRider_7 : decode cX9_addRider 7 = .ok (.istore 5, 2) := by decide +kernel
theorem dX9_addRider_9 : decode cX9_addRider 9 = .ok (.iload 5, 2) := by decide +kernel
theorem dX9_addRider_11 : decode cX9_addRider 11 = .ok (.bipush 10, 2) := by decide +kernel
theorem dX9_addRider_13 : decode cX9_addRider 13 = .ok (.if_icmp .lt 4, 3) := by decide +kernel
theorem dX9_addRider_16 : decode cX9_addRider 16 = .ok (.return_, 1) := by decide +kernel
theorem dX9_addRider_17 : decode cX9_addRider 17 = .ok (.aload_n 0, 1) := by decide +kernel
theorem dX9_addRider_18 : decode cX9_addRider 18 = .ok (.getfield 19, 3) := by decide +kernel
theorem dX9_addRider_21 : decode cX9_addRider 21 = .ok (.getfield 129, 3) := by decide +kernel
theorem dX9_addRider_24 : decode cX9_addRider 24 = .ok (.iload 5, 2) := by decide +kernel
theorem dX9_addRider_26 : decode cX9_addRider 26 = .ok (.iload_n 1, 1) := by decide +kernel
theorem dX9_addRider_27 : decode cX9_addRider 27 = .ok (.iastore, 1) := by decide +kernel
theorem dX9_addRider_28 : decode cX9_addRider 28 = .ok (.aload_n 0, 1) := by decide +kernel
theorem dX9_addRider_29 : decode cX9_addRider 29 = .ok (.getfield 19, 3) := by decide +kernel
theorem dX9_addRider_32 : decode cX9_addRider 32 = .ok (.getfield 136, 3) := by decide +kernel
theorem dX9_addRider_35 : decode cX9_addRider 35 = .ok (.iload 5, 2) := by decide +kernel
theorem dX9_addRider_37 : decode cX9_addRider 37 = .ok (.bipush 10, 2) := by decide +kernel
theorem dX9_addRider_39 : decode cX9_addRider 39 = .ok (.iastore, 1) := by decide +kernel
theorem dX9_addRider_40 : decode cX9_addRider 40 = .ok (.aload_n 0, 1) := by decide +kernel
theorem dX9_addRider_41 : decode cX9_addRider 41 = .ok (.getfield 19, 3) := by decide +kernel
theorem dX9_addRider_44 : decode cX9_addRider 44 = .ok (.dup, 1) := by decide +kernel
theorem dX9_addRider_45 : decode cX9_addRider 45 = .ok (.getfield 154, 3) := by decide +kernel
theorem dX9_addRider_48 : decode cX9_addRider 48 = .ok (.iconst 1, 1) := by decide +kernel
theorem dX9_addRider_49 : decode cX9_addRider 49 = .ok (.iadd, 1) := by decide +kernel
theorem dX9_addRider_50 : decode cX9_addRider 50 = .ok (.putfield 154, 3) := by decide +kernel
theorem dX9_addRider_53 : decode cX9_addRider 53 = .ok (.aload_n 0, 1) := by decide +kernel
theorem dX9_addRider_54 : decode cX9_addRider 54 = .ok (.getfield 26, 3) := by decide +kernel
theorem dX9_addRider_57 : decode cX9_addRider 57 = .ok (.getfield 139, 3) := by decide +kernel
theorem dX9_addRider_60 : decode cX9_addRider 60 = .ok (.iload 5, 2) := by decide +kernel
theorem dX9_addRider_62 : decode cX9_addRider 62 = .ok (.iload_n 3, 1) := by decide +kernel
theorem dX9_addRider_63 : decode cX9_addRider 63 = .ok (.iastore, 1) := by decide +kernel
theorem dX9_addRider_64 : decode cX9_addRider 64 = .ok (.aload_n 0, 1) := by decide +kernel
theorem dX9_addRider_65 : decode cX9_addRider 65 = .ok (.getfield 26, 3) := by decide +kernel
theorem dX9_addRider_68 : decode cX9_addRider 68 = .ok (.getfield 133, 3) := by decide +kernel
theorem dX9_addRider_71 : decode cX9_addRider 71 = .ok (.iload 5, 2) := by decide +kernel
theorem dX9_addRider_73 : decode cX9_addRider 73 = .ok (.iload_n 2, 1) := by decide +kernel
theorem dX9_addRider_74 : decode cX9_addRider 74 = .ok (.iastore, 1) := by decide +kernel
theorem dX9_addRider_75 : decode cX9_addRider 75 = .ok (.aload_n 0, 1) := by decide +kernel
theorem dX9_addRider_76 : decode cX9_addRider 76 = .ok (.getfield 26, 3) := by decide +kernel
theorem dX9_addRider_79 : decode cX9_addRider 79 = .ok (.getfield 145, 3) := by decide +kernel
theorem dX9_addRider_82 : decode cX9_addRider 82 = .ok (.iload 5, 2) := by decide +kernel
theorem dX9_addRider_84 : decode cX9_addRider 84 = .ok (.iconst 0, 1) := by decide +kernel
theorem dX9_addRider_85 : decode cX9_addRider 85 = .ok (.iastore, 1) := by decide +kernel
theorem dX9_addRider_86 : decode cX9_addRider 86 = .ok (.iload 4, 2) := by decide +kernel
theorem dX9_addRider_88 : decode cX9_addRider 88 = .ok (.ifCond .eq 19, 3) := by decide +kernel
theorem dX9_addRider_91 : decode cX9_addRider 91 = .ok (.aload_n 0, 1) := by decide +kernel
theorem dX9_addRider_92 : decode cX9_addRider 92 = .ok (.getfield 26, 3) := by decide +kernel
theorem dX9_addRider_95 : decode cX9_addRider 95 = .ok (.dup, 1) := by decide +kernel
theorem dX9_addRider_96 : decode cX9_addRider 96 = .ok (.getfield 142, 3) := by decide +kernel
theorem dX9_addRider_99 : decode cX9_addRider 99 = .ok (.iconst 1, 1) := by decide +kernel
theorem dX9_addRider_100 : decode cX9_addRider 100 = .ok (.iload 5, 2) := by decide +kernel
theorem dX9_addRider_102 : decode cX9_addRider 102 = .ok (.ishl, 1) := by decide +kernel
theorem dX9_addRider_103 : decode cX9_addRider 103 = .ok (.ior, 1) := by decide +kernel
theorem dX9_addRider_104 : decode cX9_addRider 104 = .ok (.putfield 142, 3) := by decide +kernel
theorem dX9_addRider_107 : decode cX9_addRider 107 = .ok (.return_, 1) := by decide +kernel
theorem dX9_forgetWhatWas_0 : decode cX9_forgetWhatWas 0 = .ok (.aload_n 0, 1) := by decide +kernel
theorem dX9_forgetWhatWas_1 : decode cX9_forgetWhatWas 1 = .ok (.getfield 36, 3) := by decide +kernel
theorem dX9_forgetWhatWas_4 : decode cX9_forgetWhatWas 4 = .ok (.iconst 0, 1) := by decide +kernel
theorem dX9_forgetWhatWas_5 : decode cX9_forgetWhatWas 5 = .ok (.putfield 217, 3) := by decide +kernel
theorem dX9_forgetWhatWas_8 : decode cX9_forgetWhatWas 8 = .ok (.iconst 0, 1) := by decide +kernel
theorem dX9_forgetWhatWas_9 : decode cX9_forgetWhatWas 9 = .ok (.istore_n 1, 1) := by decide +kernel
theorem dX9_forgetWhatWas_10 : decode cX9_forgetWhatWas 10 = .ok (.iload_n 1, 1) := by decide +kernel
theorem dX9_forgetWhatWas_11 : decode cX9_forgetWhatWas 11 = .ok (.iconst 3, 1) := by decide +kernel
theorem dX9_forgetWhatWas_12 : decode cX9_forgetWhatWas 12 = .ok (.if_icmp .ge 16, 3) := by decide +kernel
theorem dX9_forgetWhatWas_15 : decode cX9_forgetWhatWas 15 = .ok (.aload_n 0, 1) := by decide +kernel
theorem dX9_forgetWhatWas_16 : decode cX9_forgetWhatWas 16 = .ok (.getfield 44, 3) := by decide +kernel
theorem dX9_forgetWhatWas_19 : decode cX9_forgetWhatWas 19 = .ok (.iload_n 1, 1) := by decide +kernel
theorem dX9_forgetWhatWas_20 : decode cX9_forgetWhatWas 20 = .ok (.iconst 0, 1) := by decide +kernel
theorem dX9_forgetWhatWas_21 : decode cX9_forgetWhatWas 21 = .ok (.bastore, 1) := by decide +kernel
theorem dX9_forgetWhatWas_22 : decode cX9_forgetWhatWas 22 = .ok (.iinc 1 1, 3) := by decide +kernel
theorem dX9_forgetWhatWas_25 : decode cX9_forgetWhatWas 25 = .ok (.goto (-15), 3) := by decide +kernel
theorem dX9_forgetWhatWas_28 : decode cX9_forgetWhatWas 28 = .ok (.return_, 1) := by decide +kernel
theorem dX9_nextDrawn_0 : decode cX9_nextDrawn 0 = .ok (.iload_n 0, 1) := by decide +kernel
theorem dX9_nextDrawn_1 : decode cX9_nextDrawn 1 = .ok (.ldc_w 354, 3) := by decide +kernel
theorem dX9_nextDrawn_4 : decode cX9_nextDrawn 4 = .ok (.imul, 1) := by decide +kernel
theorem dX9_nextDrawn_5 : decode cX9_nextDrawn 5 = .ok (.sipush 12345, 3) := by decide +kernel
theorem dX9_nextDrawn_8 : decode cX9_nextDrawn 8 = .ok (.iadd, 1) := by decide +kernel
theorem dX9_nextDrawn_9 : decode cX9_nextDrawn 9 = .ok (.ireturn, 1) := by decide +kernel
theorem dX9_ofFloors_0 : decode cX9_ofFloors 0 = .ok (.aload_n 0, 1) := by decide +kernel
theorem dX9_ofFloors_1 : decode cX9_ofFloors 1 = .ok (.getfield 19, 3) := by decide +kernel
theorem dX9_ofFloors_4 : decode cX9_ofFloors 4 = .ok (.getfield 229, 3) := by decide +kernel
theorem dX9_ofFloors_7 : decode cX9_ofFloors 7 = .ok (.istore_n 2, 1) := by decide +kernel
theorem dX9_ofFloors_8 : decode cX9_ofFloors 8 = .ok (.iload_n 2, 1) := by decide +kernel
theorem dX9_ofFloors_9 : decode cX9_ofFloors 9 = .ok (.ifCond .le 12, 3) := by decide +kernel
theorem dX9_ofFloors_12 : decode cX9_ofFloors 12 = .ok (.iload_n 1, 1) := by decide +kernel
theorem dX9_ofFloors_13 : decode cX9_ofFloors 13 = .ok (.bipush 16, 2) := by decide +kernel
theorem dX9_ofFloors_15 : decode cX9_ofFloors 15 = .ok (.iushr, 1) := by decide +kernel
theorem dX9_ofFloors_16 : decode cX9_ofFloors 16 = .ok (.iload_n 2, 1) := by decide +kernel
theorem dX9_ofFloors_17 : decode cX9_ofFloors 17 = .ok (.irem, 1) := by decide +kernel
theorem dX9_ofFloors_18 : decode cX9_ofFloors 18 = .ok (.goto 4, 3) := by decide +kernel
theorem dX9_ofFloors_21 : decode cX9_ofFloors 21 = .ok (.iconst 0, 1) := by decide +kernel
theorem dX9_ofFloors_22 : decode cX9_ofFloors 22 = .ok (.ireturn, 1) := by decide +kernel
theorem dX9_asKind_0 : decode cX9_asKind 0 = .ok (.iload_n 0, 1) := by decide +kernel
theorem dX9_asKind_1 : decode cX9_asKind 1 = .ok (.ifCond .ne 6, 3) := by decide +kernel
theorem dX9_asKind_4 : decode cX9_asKind 4 = .ok (.iload_n 1, 1) := by decide +kernel
theorem dX9_asKind_5 : decode cX9_asKind 5 = .ok (.i2b, 1) := by decide +kernel
theorem dX9_asKind_6 : decode cX9_asKind 6 = .ok (.ireturn, 1) := by decide +kernel
theorem dX9_asKind_7 : decode cX9_asKind 7 = .ok (.iload_n 0, 1) := by decide +kernel
theorem dX9_asKind_8 : decode cX9_asKind 8 = .ok (.iconst 1, 1) := by decide +kernel
theorem dX9_asKind_9 : decode cX9_asKind 9 = .ok (.if_icmp .ne 8, 3) := by decide +kernel
theorem dX9_asKind_12 : decode cX9_asKind 12 = .ok (.iload_n 1, 1) := by decide +kernel
theorem dX9_asKind_13 : decode cX9_asKind 13 = .ok (.i2s, 1) := by decide +kernel
theorem dX9_asKind_14 : decode cX9_asKind 14 = .ok (.goto 4, 3) := by decide +kernel
theorem dX9_asKind_17 : decode cX9_asKind 17 = .ok (.iload_n 1, 1) := by decide +kernel
theorem dX9_asKind_18 : decode cX9_asKind 18 = .ok (.ireturn, 1) := by decide +kernel
theorem dX9_fewestMoved_0 : decode cX9_fewestMoved 0 = .ok (.aload_n 0, 1) := by decide +kernel
theorem dX9_fewestMoved_1 : decode cX9_fewestMoved 1 = .ok (.getfield 19, 3) := by decide +kernel
theorem dX9_fewestMoved_4 : decode cX9_fewestMoved 4 = .ok (.iload_n 1, 1) := by decide +kernel
theorem dX9_fewestMoved_5 : decode cX9_fewestMoved 5 = .ok (.invokevirtual 148, 3) := by decide +kernel
theorem dX9_fewestMoved_8 : decode cX9_fewestMoved 8 = .ok (.ifCond .ne 5, 3) := by decide +kernel
theorem dX9_fewestMoved_11 : decode cX9_fewestMoved 11 = .ok (.iconst (-1), 1) := by decide +kernel
theorem dX9_fewestMoved_12 : decode cX9_fewestMoved 12 = .ok (.ireturn, 1) := by decide +kernel
theorem dX9_fewestMoved_13 : decode cX9_fewestMoved 13 = .ok (.iload_n 2, 1) := by decide +kernel
theorem dX9_fewestMoved_14 : decode cX9_fewestMoved 14 = .ok (.invokestatic 246, 3) := by decide +kernel
theorem dX9_fewestMoved_17 : decode cX9_fewestMoved 17 = .ok (.istore_n 3, 1) := by decide +kernel
theorem dX9_fewestMoved_18 : decode cX9_fewestMoved 18 = .ok (.bipush 11, 2) := by decide +kernel
theorem dX9_fewestMoved_20 : decode cX9_fewestMoved 20 = .ok (.istore 4, 2) := by decide +kernel
theorem dX9_fewestMoved_22 : decode cX9_fewestMoved 22 = .ok (.iconst 0, 1) := by decide +kernel
theorem dX9_fewestMoved_23 : decode cX9_fewestMoved 23 = .ok (.istore 5, 2) := by decide +kernel
theorem dX9_fewestMoved_25 : decode cX9_fewestMoved 25 = .ok (.iconst 0, 1) := by decide +kernel
theorem dX9_fewestMoved_26 : decode cX9_fewestMoved 26 = .ok (.istore 6, 2) := by decide +kernel
theorem dX9_fewestMoved_28 : decode cX9_fewestMoved 28 = .ok (.iconst 0, 1) := by decide +kernel
theorem dX9_fewestMoved_29 : decode cX9_fewestMoved 29 = .ok (.istore 7, 2) := by decide +kernel
theorem dX9_fewestMoved_31 : decode cX9_fewestMoved 31 = .ok (.iload 7, 2) := by decide +kernel
theorem dX9_fewestMoved_33 : decode cX9_fewestMoved 33 = .ok (.iload_n 3, 1) := by decide +kernel
theorem dX9_fewestMoved_34 : decode cX9_fewestMoved 34 = .ok (.if_icmp .ge 64, 3) := by decide +kernel
theorem dX9_fewestMoved_37 : decode cX9_fewestMoved 37 = .ok (.iload 6, 2) := by decide +kernel
theorem dX9_fewestMoved_39 : decode cX9_fewestMoved 39 = .ok (.invokestatic 272, 3) := by decide +kernel
theorem dX9_fewestMoved_42 : decode cX9_fewestMoved 42 = .ok (.istore 8, 2) := by decide +kernel
theorem dX9_fewestMoved_44 : decode cX9_fewestMoved 44 = .ok (.iload 8, 2) := by decide +kernel
theorem dX9_fewestMoved_46 : decode cX9_fewestMoved 46 = .ok (.iload 4, 2) := by decide +kernel
theorem dX9_fewestMoved_48 : decode cX9_fewestMoved 48 = .ok (.if_icmp .ge 36, 3) := by decide +kernel
theorem dX9_fewestMoved_51 : decode cX9_fewestMoved 51 = .ok (.aload_n 0, 1) := by decide +kernel
theorem dX9_fewestMoved_52 : decode cX9_fewestMoved 52 = .ok (.getfield 19, 3) := by decide +kernel
theorem dX9_fewestMoved_55 : decode cX9_fewestMoved 55 = .ok (.aload_n 0, 1) := by decide +kernel
theorem dX9_fewestMoved_56 : decode cX9_fewestMoved 56 = .ok (.getfield 26, 3) := by decide +kernel
theorem dX9_fewestMoved_59 : decode cX9_fewestMoved 59 = .ok (.aload_n 0, 1) := by decide +kernel
theorem dX9_fewestMoved_60 : decode cX9_fewestMoved 60 = .ok (.getfield 26, 3) := by decide +kernel
theorem dX9_fewestMoved_63 : decode cX9_fewestMoved 63 = .ok (.getfield 142, 3) := by decide +kernel
theorem dX9_fewestMoved_66 : decode cX9_fewestMoved 66 = .ok (.iload 6, 2) := by decide +kernel
theorem dX9_fewestMoved_68 : decode cX9_fewestMoved 68 = .ok (.ixor, 1) := by decide +kernel
theorem dX9_fewestMoved_69 : decode cX9_fewestMoved 69 = .ok (.invokevirtual 218, 3) := by decide +kernel
theorem dX9_fewestMoved_72 : decode cX9_fewestMoved 72 = .ok (.iload_n 1, 1) := by decide +kernel
theorem dX9_fewestMoved_73 : decode cX9_fewestMoved 73 = .ok (.if_icmp .ne 11, 3) := by decide +kernel
theorem dX9_fewestMoved_76 : decode cX9_fewestMoved 76 = .ok (.iload 8, 2) := by decide +kernel
theorem dX9_fewestMoved_78 : decode cX9_fewestMoved 78 = .ok (.istore 4, 2) := by decide +kernel
theorem dX9_fewestMoved_80 : decode cX9_fewestMoved 80 = .ok (.iload 6, 2) := by decide +kernel
theorem dX9_fewestMoved_82 : decode cX9_fewestMoved 82 = .ok (.istore 5, 2) := by decide +kernel
theorem dX9_fewestMoved_84 : decode cX9_fewestMoved 84 = .ok (.iload 6, 2) := by decide +kernel
theorem dX9_fewestMoved_86 : decode cX9_fewestMoved 86 = .ok (.iload_n 2, 1) := by decide +kernel
theorem dX9_fewestMoved_87 : decode cX9_fewestMoved 87 = .ok (.invokestatic 253, 3) := by decide +kernel
theorem dX9_fewestMoved_90 : decode cX9_fewestMoved 90 = .ok (.istore 6, 2) := by decide +kernel
theorem dX9_fewestMoved_92 : decode cX9_fewestMoved 92 = .ok (.iinc 7 1, 3) := by decide +kernel
theorem dX9_fewestMoved_95 : decode cX9_fewestMoved 95 = .ok (.goto (-64), 3) := by decide +kernel
theorem dX9_fewestMoved_98 : decode cX9_fewestMoved 98 = .ok (.iload 4, 2) := by decide +kernel
theorem dX9_fewestMoved_100 : decode cX9_fewestMoved 100 = .ok (.bipush 10, 2) := by decide +kernel
theorem dX9_fewestMoved_102 : decode cX9_fewestMoved 102 = .ok (.if_icmp .le 6, 3) := by decide +kernel
theorem dX9_fewestMoved_105 : decode cX9_fewestMoved 105 = .ok (.bipush (-2), 2) := by decide +kernel
theorem dX9_fewestMoved_107 : decode cX9_fewestMoved 107 = .ok (.ireturn, 1) := by decide +kernel
theorem dX9_fewestMoved_108 : decode cX9_fewestMoved 108 = .ok (.aload_n 0, 1) := by decide +kernel
theorem dX9_fewestMoved_109 : decode cX9_fewestMoved 109 = .ok (.invokevirtual 192, 3) := by decide +kernel
theorem dX9_fewestMoved_112 : decode cX9_fewestMoved 112 = .ok (.aload_n 0, 1) := by decide +kernel
theorem dX9_fewestMoved_113 : decode cX9_fewestMoved 113 = .ok (.iload 5, 2) := by decide +kernel
theorem dX9_fewestMoved_115 : decode cX9_fewestMoved 115 = .ok (.i2l, 1) := by decide +kernel
theorem dX9_fewestMoved_116 : decode cX9_fewestMoved 116 = .ok (.invokevirtual 195, 3) := by decide +kernel
theorem dX9_fewestMoved_119 : decode cX9_fewestMoved 119 = .ok (.iload 4, 2) := by decide +kernel
theorem dX9_fewestMoved_121 : decode cX9_fewestMoved 121 = .ok (.ireturn, 1) := by decide +kernel
theorem dX9_distanceBy_0 : decode cX9_distanceBy 0 = .ok (.aload_n 1, 1) := by decide +kernel
theorem dX9_distanceBy_1 : decode cX9_distanceBy 1 = .ok (.getfield 133, 3) := by decide +kernel
theorem dX9_distanceBy_4 : decode cX9_distanceBy 4 = .ok (.iload_n 2, 1) := by decide +kernel
theorem dX9_distanceBy_5 : decode cX9_distanceBy 5 = .ok (.iaload, 1) := by decide +kernel
theorem dX9_distanceBy_6 : decode cX9_distanceBy 6 = .ok (.istore 4, 2) := by decide +kernel
theorem dX9_distanceBy_8 : decode cX9_distanceBy 8 = .ok (.aload_n 1, 1) := by decide +kernel
theorem dX9_distanceBy_9 : decode cX9_distanceBy 9 = .ok (.getfield 133, 3) := by decide +kernel
theorem dX9_distanceBy_12 : decode cX9_distanceBy 12 = .ok (.iload_n 2, 1) := by decide +kernel
theorem dX9_distanceBy_13 : decode cX9_distanceBy 13 = .ok (.iload_n 3, 1) := by decide +kernel
theorem dX9_distanceBy_14 : decode cX9_distanceBy 14 = .ok (.iastore, 1) := by decide +kernel
theorem dX9_distanceBy_15 : decode cX9_distanceBy 15 = .ok (.aload_n 0, 1) := by decide +kernel
theorem dX9_distanceBy_16 : decode cX9_distanceBy 16 = .ok (.getfield 19, 3) := by decide +kernel
theorem dX9_distanceBy_19 : decode cX9_distanceBy 19 = .ok (.aload_n 1, 1) := by decide +kernel
theorem dX9_distanceBy_20 : decode cX9_distanceBy 20 = .ok (.aload_n 1, 1) := by decide +kernel
theorem dX9_distanceBy_21 : decode cX9_distanceBy 21 = .ok (.getfield 142, 3) := by decide +kernel
theorem dX9_distanceBy_24 : decode cX9_distanceBy 24 = .ok (.invokevirtual 218, 3) := by decide +kernel
theorem dX9_distanceBy_27 : decode cX9_distanceBy 27 = .ok (.istore 5, 2) := by decide +kernel
theorem dX9_distanceBy_29 : decode cX9_distanceBy 29 = .ok (.aload_n 1, 1) := by decide +kernel
theorem dX9_distanceBy_30 : decode cX9_distanceBy 30 = .ok (.getfield 133, 3) := by decide +kernel
theorem dX9_distanceBy_33 : decode cX9_distanceBy 33 = .ok (.iload_n 2, 1) := by decide +kernel
theorem dX9_distanceBy_34 : decode cX9_distanceBy 34 = .ok (.iload 4, 2) := by decide +kernel
theorem dX9_distanceBy_36 : decode cX9_distanceBy 36 = .ok (.iastore, 1) := by decide +kernel
theorem dX9_distanceBy_37 : decode cX9_distanceBy 37 = .ok (.iload 5, 2) := by decide +kernel
theorem dX9_distanceBy_39 : decode cX9_distanceBy 39 = .ok (.aload_n 0, 1) := by decide +kernel
theorem dX9_distanceBy_40 : decode cX9_distanceBy 40 = .ok (.getfield 19, 3) := by decide +kernel
theorem dX9_distanceBy_43 : decode cX9_distanceBy 43 = .ok (.getfield 129, 3) := by decide +kernel
theorem dX9_distanceBy_46 : decode cX9_distanceBy 46 = .ok (.iload_n 2, 1) := by decide +kernel
theorem dX9_distanceBy_47 : decode cX9_distanceBy 47 = .ok (.iaload, 1) := by decide +kernel
theorem dX9_distanceBy_48 : decode cX9_distanceBy 48 = .ok (.isub, 1) := by decide +kernel
theorem dX9_distanceBy_49 : decode cX9_distanceBy 49 = .ok (.invokestatic 355, 3) := by decide +kernel
theorem dX9_distanceBy_52 : decode cX9_distanceBy 52 = .ok (.ireturn, 1) := by decide +kernel
theorem dX9_bestWish_0 : decode cX9_bestWish 0 = .ok (.aload_n 1, 1) := by decide +kernel
theorem dX9_bestWish_1 : decode cX9_bestWish 1 = .ok (.getfield 133, 3) := by decide +kernel
theorem dX9_bestWish_4 : decode cX9_bestWish 4 = .ok (.iload_n 2, 1) := by decide +kernel
theorem dX9_bestWish_5 : decode cX9_bestWish 5 = .ok (.iaload, 1) := by decide +kernel
theorem dX9_bestWish_6 : decode cX9_bestWish 6 = .ok (.istore_n 3, 1) := by decide +kernel
theorem dX9_bestWish_7 : decode cX9_bestWish 7 = .ok (.aload_n 0, 1) := by decide +kernel
theorem dX9_bestWish_8 : decode cX9_bestWish 8 = .ok (.aload_n 1, 1) := by decide +kernel
theorem dX9_bestWish_9 : decode cX9_bestWish 9 = .ok (.iload_n 2, 1) := by decide +kernel
theorem dX9_bestWish_10 : decode cX9_bestWish 10 = .ok (.iload_n 3, 1) := by decide +kernel
theorem dX9_bestWish_11 : decode cX9_bestWish 11 = .ok (.invokevirtual 265, 3) := by decide +kernel
theorem dX9_bestWish_14 : decode cX9_bestWish 14 = .ok (.istore 4, 2) := by decide +kernel
theorem dX9_bestWish_16 : decode cX9_bestWish 16 = .ok (.iconst (-1), 1) := by decide +kernel
theorem dX9_bestWish_17 : decode cX9_bestWish 17 = .ok (.istore 5, 2) := by decide +kernel
theorem dX9_bestWish_19 : decode cX9_bestWish 19 = .ok (.iload 5, 2) := by decide +kernel
theorem dX9_bestWish_21 : decode cX9_bestWish 21 = .ok (.aload_n 0, 1) := by decide +kernel
theorem dX9_bestWish_22 : decode cX9_bestWish 22 = .ok (.getfield 19, 3) := by decide +kernel
theorem dX9_bestWish_25 : decode cX9_bestWish 25 = .ok (.getfield 229, 3) := by decide +kernel
theorem dX9_bestWish_28 : decode cX9_bestWish 28 = .ok (.if_icmp .ge 33, 3) := by decide +kernel
theorem dX9_bestWish_31 : decode cX9_bestWish 31 = .ok (.aload_n 0, 1) := by decide +kernel
theorem dX9_bestWish_32 : decode cX9_bestWish 32 = .ok (.aload_n 1, 1) := by decide +kernel
theorem dX9_bestWish_33 : decode cX9_bestWish 33 = .ok (.iload_n 2, 1) := by decide +kernel
theorem dX9_bestWish_34 : decode cX9_bestWish 34 = .ok (.iload 5, 2) := by decide +kernel
theorem dX9_bestWish_36 : decode cX9_bestWish 36 = .ok (.invokevirtual 265, 3) := by decide +kernel
theorem dX9_bestWish_39 : decode cX9_bestWish 39 = .ok (.istore 6, 2) := by decide +kernel
theorem dX9_bestWish_41 : decode cX9_bestWish 41 = .ok (.iload 6, 2) := by decide +kernel
theorem dX9_bestWish_43 : decode cX9_bestWish 43 = .ok (.iload 4, 2) := by decide +kernel
theorem dX9_bestWish_45 : decode cX9_bestWish 45 = .ok (.if_icmp .ge 10, 3) := by decide +kernel
theorem dX9_bestWish_48 : decode cX9_bestWish 48 = .ok (.iload 6, 2) := by decide +kernel
theorem dX9_bestWish_50 : decode cX9_bestWish 50 = .ok (.istore 4, 2) := by decide +kernel
theorem dX9_bestWish_52 : decode cX9_bestWish 52 = .ok (.iload 5, 2) := by decide +kernel
theorem dX9_bestWish_54 : decode cX9_bestWish 54 = .ok (.istore_n 3, 1) := by decide +kernel
theorem dX9_bestWish_55 : decode cX9_bestWish 55 = .ok (.iinc 5 1, 3) := by decide +kernel
theorem dX9_bestWish_58 : decode cX9_bestWish 58 = .ok (.goto (-39), 3) := by decide +kernel
theorem dX9_bestWish_61 : decode cX9_bestWish 61 = .ok (.iload_n 3, 1) := by decide +kernel
theorem dX9_bestWish_62 : decode cX9_bestWish 62 = .ok (.ireturn, 1) := by decide +kernel
theorem dX9_tellAnew_0 : decode cX9_tellAnew 0 = .ok (.iconst 0, 1) := by decide +kernel
theorem dX9_tellAnew_1 : decode cX9_tellAnew 1 = .ok (.istore_n 2, 1) := by decide +kernel
theorem dX9_tellAnew_2 : decode cX9_tellAnew 2 = .ok (.iconst 0, 1) := by decide +kernel
theorem dX9_tellAnew_3 : decode cX9_tellAnew 3 = .ok (.istore_n 3, 1) := by decide +kernel
theorem dX9_tellAnew_4 : decode cX9_tellAnew 4 = .ok (.iload_n 3, 1) := by decide +kernel
theorem dX9_tellAnew_5 : decode cX9_tellAnew 5 = .ok (.aload_n 0, 1) := by decide +kernel
theorem dX9_tellAnew_6 : decode cX9_tellAnew 6 = .ok (.getfield 19, 3) := by decide +kernel
theorem dX9_tellAnew_9 : decode cX9_tellAnew 9 = .ok (.getfield 154, 3) := by decide +kernel
theorem dX9_tellAnew_12 : decode cX9_tellAnew 12 = .ok (.if_icmp .ge 52, 3) := by decide +kernel
theorem dX9_tellAnew_15 : decode cX9_tellAnew 15 = .ok (.aload_n 1, 1) := by decide +kernel
theorem dX9_tellAnew_16 : decode cX9_tellAnew 16 = .ok (.iload_n 3, 1) := by decide +kernel
theorem dX9_tellAnew_17 : decode cX9_tellAnew 17 = .ok (.invokevirtual 185, 3) := by decide +kernel
theorem dX9_tellAnew_20 : decode cX9_tellAnew 20 = .ok (.ifCond .eq 38, 3) := by decide +kernel
theorem dX9_tellAnew_23 : decode cX9_tellAnew 23 = .ok (.aload_n 0, 1) := by decide +kernel
theorem dX9_tellAnew_24 : decode cX9_tellAnew 24 = .ok (.aload_n 1, 1) := by decide +kernel
theorem dX9_tellAnew_25 : decode cX9_tellAnew 25 = .ok (.iload_n 3, 1) := by decide +kernel
theorem dX9_tellAnew_26 : decode cX9_tellAnew 26 = .ok (.invokevirtual 262, 3) := by decide +kernel
theorem dX9_tellAnew_29 : decode cX9_tellAnew 29 = .ok (.istore 4, 2) := by decide +kernel
theorem dX9_tellAnew_31 : decode cX9_tellAnew 31 = .ok (.iload_n 2, 1) := by decide +kernel
theorem dX9_tellAnew_32 : decode cX9_tellAnew 32 = .ok (.iload 4, 2) := by decide +kernel
theorem dX9_tellAnew_34 : decode cX9_tellAnew 34 = .ok (.aload_n 1, 1) := by decide +kernel
theorem dX9_tellAnew_35 : decode cX9_tellAnew 35 = .ok (.getfield 133, 3) := by decide +kernel
theorem dX9_tellAnew_38 : decode cX9_tellAnew 38 = .ok (.iload_n 3, 1) := by decide +kernel
theorem dX9_tellAnew_39 : decode cX9_tellAnew 39 = .ok (.iaload, 1) := by decide +kernel
theorem dX9_tellAnew_40 : decode cX9_tellAnew 40 = .ok (.if_icmp .eq 7, 3) := by decide +kernel
theorem dX9_tellAnew_43 : decode cX9_tellAnew 43 = .ok (.iconst 1, 1) := by decide +kernel
theorem dX9_tellAnew_44 : decode cX9_tellAnew 44 = .ok (.goto 4, 3) := by decide +kernel
theorem dX9_tellAnew_47 : decode cX9_tellAnew 47 = .ok (.iconst 0, 1) := by decide +kernel
theorem dX9_tellAnew_48 : decode cX9_tellAnew 48 = .ok (.ior, 1) := by decide +kernel
theorem dX9_tellAnew_49 : decode cX9_tellAnew 49 = .ok (.istore_n 2, 1) := by decide +kernel
theorem dX9_tellAnew_50 : decode cX9_tellAnew 50 = .ok (.aload_n 1, 1) := by decide +kernel
theorem dX9_tellAnew_51 : decode cX9_tellAnew 51 = .ok (.getfield 133, 3) := by decide +kernel
theorem dX9_tellAnew_54 : decode cX9_tellAnew 54 = .ok (.iload_n 3, 1) := by decide +kernel
theorem dX9_tellAnew_55 : decode cX9_tellAnew 55 = .ok (.iload 4, 2) := by decide +kernel
theorem dX9_tellAnew_57 : decode cX9_tellAnew 57 = .ok (.iastore, 1) := by decide +kernel
theorem dX9_tellAnew_58 : decode cX9_tellAnew 58 = .ok (.iinc 3 1, 3) := by decide +kernel
theorem dX9_tellAnew_61 : decode cX9_tellAnew 61 = .ok (.goto (-57), 3) := by decide +kernel
theorem dX9_tellAnew_64 : decode cX9_tellAnew 64 = .ok (.iload_n 2, 1) := by decide +kernel
theorem dX9_tellAnew_65 : decode cX9_tellAnew 65 = .ok (.ireturn, 1) := by decide +kernel
theorem dX9_comeHome_0 : decode cX9_comeHome 0 = .ok (.aload_n 0, 1) := by decide +kernel
theorem dX9_comeHome_1 : decode cX9_comeHome 1 = .ok (.getfield 30, 3) := by decide +kernel
theorem dX9_comeHome_4 : decode cX9_comeHome 4 = .ok (.aload_n 0, 1) := by decide +kernel
theorem dX9_comeHome_5 : decode cX9_comeHome 5 = .ok (.getfield 26, 3) := by decide +kernel
theorem dX9_comeHome_8 : decode cX9_comeHome 8 = .ok (.invokevirtual 259, 3) := by decide +kernel
theorem dX9_comeHome_11 : decode cX9_comeHome 11 = .ok (.aload_n 0, 1) := by decide +kernel
theorem dX9_comeHome_12 : decode cX9_comeHome 12 = .ok (.getfield 30, 3) := by decide +kernel
theorem dX9_comeHome_15 : decode cX9_comeHome 15 = .ok (.iload_n 1, 1) := by decide +kernel
theorem dX9_comeHome_16 : decode cX9_comeHome 16 = .ok (.putfield 142, 3) := by decide +kernel
theorem dX9_comeHome_19 : decode cX9_comeHome 19 = .ok (.iconst 0, 1) := by decide +kernel
theorem dX9_comeHome_20 : decode cX9_comeHome 20 = .ok (.istore_n 3, 1) := by decide +kernel
theorem dX9_comeHome_21 : decode cX9_comeHome 21 = .ok (.iconst 0, 1) := by decide +kernel
theorem dX9_comeHome_22 : decode cX9_comeHome 22 = .ok (.istore 4, 2) := by decide +kernel
theorem dX9_comeHome_24 : decode cX9_comeHome 24 = .ok (.iload 4, 2) := by decide +kernel
theorem dX9_comeHome_26 : decode cX9_comeHome 26 = .ok (.iload_n 2, 1) := by decide +kernel
theorem dX9_comeHome_27 : decode cX9_comeHome 27 = .ok (.if_icmp .ge 23, 3) := by decide +kernel
theorem dX9_comeHome_30 : decode cX9_comeHome 30 = .ok (.iload_n 3, 1) := by decide +kernel
theorem dX9_comeHome_31 : decode cX9_comeHome 31 = .ok (.aload_n 0, 1) := by decide +kernel
theorem dX9_comeHome_32 : decode cX9_comeHome 32 = .ok (.getfield 19, 3) := by decide +kernel
theorem dX9_comeHome_35 : decode cX9_comeHome 35 = .ok (.aload_n 0, 1) := by decide +kernel
theorem dX9_comeHome_36 : decode cX9_comeHome 36 = .ok (.getfield 30, 3) := by decide +kernel
theorem dX9_comeHome_39 : decode cX9_comeHome 39 = .ok (.invokevirtual 188, 3) := by decide +kernel
theorem dX9_comeHome_42 : decode cX9_comeHome 42 = .ok (.ior, 1) := by decide +kernel
theorem dX9_comeHome_43 : decode cX9_comeHome 43 = .ok (.istore_n 3, 1) := by decide +kernel
theorem dX9_comeHome_44 : decode cX9_comeHome 44 = .ok (.iinc 4 1, 3) := by decide +kernel
theorem dX9_comeHome_47 : decode cX9_comeHome 47 = .ok (.goto (-23), 3) := by decide +kernel
theorem dX9_comeHome_50 : decode cX9_comeHome 50 = .ok (.iload_n 3, 1) := by decide +kernel
theorem dX9_comeHome_51 : decode cX9_comeHome 51 = .ok (.ireturn, 1) := by decide +kernel
theorem dX9_ridesTillHome_0 : decode cX9_ridesTillHome 0 = .ok (.aload_n 0, 1) := by decide +kernel
theorem dX9_ridesTillHome_1 : decode cX9_ridesTillHome 1 = .ok (.getfield 19, 3) := by decide +kernel
theorem dX9_ridesTillHome_4 : decode cX9_ridesTillHome 4 = .ok (.getfield 108, 3) := by decide +kernel
theorem dX9_ridesTillHome_7 : decode cX9_ridesTillHome 7 = .ok (.getfield 277, 3) := by decide +kernel
theorem dX9_ridesTillHome_10 : decode cX9_ridesTillHome 10 = .ok (.ifCond .eq 6, 3) := by decide +kernel
theorem dX9_ridesTillHome_13 : decode cX9_ridesTillHome 13 = .ok (.bipush (-4), 2) := by decide +kernel
theorem dX9_ridesTillHome_15 : decode cX9_ridesTillHome 15 = .ok (.ireturn, 1) := by decide +kernel
theorem dX9_ridesTillHome_16 : decode cX9_ridesTillHome 16 = .ok (.aload_n 0, 1) := by decide +kernel
theorem dX9_ridesTillHome_17 : decode cX9_ridesTillHome 17 = .ok (.getfield 76, 3) := by decide +kernel
theorem dX9_ridesTillHome_20 : decode cX9_ridesTillHome 20 = .ok (.iload_n 1, 1) := by decide +kernel
theorem dX9_ridesTillHome_21 : decode cX9_ridesTillHome 21 = .ok (.invokevirtual 360, 3) := by decide +kernel
theorem dX9_ridesTillHome_24 : decode cX9_ridesTillHome 24 = .ok (.aload_n 0, 1) := by decide +kernel
theorem dX9_ridesTillHome_25 : decode cX9_ridesTillHome 25 = .ok (.getfield 76, 3) := by decide +kernel
theorem dX9_ridesTillHome_28 : decode cX9_ridesTillHome 28 = .ok (.aload_n 0, 1) := by decide +kernel
theorem dX9_ridesTillHome_29 : decode cX9_ridesTillHome 29 = .ok (.getfield 19, 3) := by decide +kernel
theorem dX9_ridesTillHome_32 : decode cX9_ridesTillHome 32 = .ok (.aload_n 0, 1) := by decide +kernel
theorem dX9_ridesTillHome_33 : decode cX9_ridesTillHome 33 = .ok (.getfield 26, 3) := by decide +kernel
theorem dX9_ridesTillHome_36 : decode cX9_ridesTillHome 36 = .ok (.sipush 3000, 3) := by decide +kernel
theorem dX9_ridesTillHome_39 : decode cX9_ridesTillHome 39 = .ok (.invokevirtual 294, 3) := by decide +kernel
theorem dX9_ridesTillHome_42 : decode cX9_ridesTillHome 42 = .ok (.istore_n 2, 1) := by decide +kernel
theorem dX9_ridesTillHome_43 : decode cX9_ridesTillHome 43 = .ok (.iload_n 2, 1) := by decide +kernel
theorem dX9_ridesTillHome_44 : decode cX9_ridesTillHome 44 = .ok (.ifCond .ge 21, 3) := by decide +kernel
theorem dX9_ridesTillHome_47 : decode cX9_ridesTillHome 47 = .ok (.aload_n 0, 1) := by decide +kernel
theorem dX9_ridesTillHome_48 : decode cX9_ridesTillHome 48 = .ok (.getfield 76, 3) := by decide +kernel
theorem dX9_ridesTillHome_51 : decode cX9_ridesTillHome 51 = .ok (.getfield 298, 3) := by decide +kernel
theorem dX9_ridesTillHome_54 : decode cX9_ridesTillHome 54 = .ok (.ifCond .eq 8, 3) := by decide +kernel
theorem dX9_ridesTillHome_57 : decode cX9_ridesTillHome 57 = .ok (.bipush (-3), 2) := by decide +kernel
theorem dX9_ridesTillHome_59 : decode cX9_ridesTillHome 59 = .ok (.goto 5, 3) := by decide +kernel
theorem dX9_ridesTillHome_62 : decode cX9_ridesTillHome 62 = .ok (.bipush (-2), 2) := by decide +kernel
theorem dX9_ridesTillHome_64 : decode cX9_ridesTillHome 64 = .ok (.ireturn, 1) := by decide +kernel
theorem dX9_ridesTillHome_65 : decode cX9_ridesTillHome 65 = .ok (.aload_n 0, 1) := by decide +kernel
theorem dX9_ridesTillHome_66 : decode cX9_ridesTillHome 66 = .ok (.iload_n 2, 1) := by decide +kernel
theorem dX9_ridesTillHome_67 : decode cX9_ridesTillHome 67 = .ok (.invokevirtual 363, 3) := by decide +kernel
theorem dX9_ridesTillHome_70 : decode cX9_ridesTillHome 70 = .ok (.aload_n 0, 1) := by decide +kernel
theorem dX9_ridesTillHome_71 : decode cX9_ridesTillHome 71 = .ok (.getfield 76, 3) := by decide +kernel
theorem dX9_ridesTillHome_74 : decode cX9_ridesTillHome 74 = .ok (.getfield 301, 3) := by decide +kernel
theorem dX9_ridesTillHome_77 : decode cX9_ridesTillHome 77 = .ok (.ireturn, 1) := by decide +kernel
theorem dX9_tellPlan_0 : decode cX9_tellPlan 0 = .ok (.iload_n 1, 1) := by decide +kernel
theorem dX9_tellPlan_1 : decode cX9_tellPlan 1 = .ok (.istore_n 2, 1) := by decide +kernel
theorem dX9_tellPlan_2 : decode cX9_tellPlan 2 = .ok (.aload_n 0, 1) := by decide +kernel
theorem dX9_tellPlan_3 : decode cX9_tellPlan 3 = .ok (.getfield 76, 3) := by decide +kernel
theorem dX9_tellPlan_6 : decode cX9_tellPlan 6 = .ok (.getfield 301, 3) := by decide +kernel
theorem dX9_tellPlan_9 : decode cX9_tellPlan 9 = .ok (.iconst 1, 1) := by decide +kernel
theorem dX9_tellPlan_10 : decode cX9_tellPlan 10 = .ok (.isub, 1) := by decide +kernel
theorem dX9_tellPlan_11 : decode cX9_tellPlan 11 = .ok (.istore_n 3, 1) := by decide +kernel
theorem dX9_tellPlan_12 : decode cX9_tellPlan 12 = .ok (.iload_n 3, 1) := by decide +kernel
theorem dX9_tellPlan_13 : decode cX9_tellPlan 13 = .ok (.ifCond .lt 39, 3) := by decide +kernel
theorem dX9_tellPlan_16 : decode cX9_tellPlan 16 = .ok (.iload_n 3, 1) := by decide +kernel
theorem dX9_tellPlan_17 : decode cX9_tellPlan 17 = .ok (.bipush 10, 2) := by decide +kernel
theorem dX9_tellPlan_19 : decode cX9_tellPlan 19 = .ok (.if_icmp .ge 18, 3) := by decide +kernel
theorem dX9_tellPlan_22 : decode cX9_tellPlan 22 = .ok (.aload_n 0, 1) := by decide +kernel
theorem dX9_tellPlan_23 : decode cX9_tellPlan 23 = .ok (.getfield 59, 3) := by decide +kernel
theorem dX9_tellPlan_26 : decode cX9_tellPlan 26 = .ok (.iload_n 3, 1) := by decide +kernel
theorem dX9_tellPlan_27 : decode cX9_tellPlan 27 = .ok (.aload_n 0, 1) := by decide +kernel
theorem dX9_tellPlan_28 : decode cX9_tellPlan 28 = .ok (.getfield 76, 3) := by decide +kernel
theorem dX9_tellPlan_31 : decode cX9_tellPlan 31 = .ok (.iload_n 2, 1) := by decide +kernel
theorem dX9_tellPlan_32 : decode cX9_tellPlan 32 = .ok (.invokevirtual 366, 3) := by decide +kernel
theorem dX9_tellPlan_35 : decode cX9_tellPlan 35 = .ok (.i2l, 1) := by decide +kernel
theorem dX9_tellPlan_36 : decode cX9_tellPlan 36 = .ok (.lastore, 1) := by decide +kernel
theorem dX9_tellPlan_37 : decode cX9_tellPlan 37 = .ok (.aload_n 0, 1) := by decide +kernel
theorem dX9_tellPlan_38 : decode cX9_tellPlan 38 = .ok (.getfield 76, 3) := by decide +kernel
theorem dX9_tellPlan_41 : decode cX9_tellPlan 41 = .ok (.iload_n 2, 1) := by decide +kernel
theorem dX9_tellPlan_42 : decode cX9_tellPlan 42 = .ok (.invokevirtual 369, 3) := by decide +kernel
theorem dX9_tellPlan_45 : decode cX9_tellPlan 45 = .ok (.istore_n 2, 1) := by decide +kernel
theorem dX9_tellPlan_46 : decode cX9_tellPlan 46 = .ok (.iinc 3 (-1), 3) := by decide +kernel
theorem dX9_tellPlan_49 : decode cX9_tellPlan 49 = .ok (.goto (-37), 3) := by decide +kernel
theorem dX9_tellPlan_52 : decode cX9_tellPlan 52 = .ok (.aload_n 0, 1) := by decide +kernel
theorem dX9_tellPlan_53 : decode cX9_tellPlan 53 = .ok (.aload_n 0, 1) := by decide +kernel
theorem dX9_tellPlan_54 : decode cX9_tellPlan 54 = .ok (.getfield 76, 3) := by decide +kernel
theorem dX9_tellPlan_57 : decode cX9_tellPlan 57 = .ok (.getfield 301, 3) := by decide +kernel
theorem dX9_tellPlan_60 : decode cX9_tellPlan 60 = .ok (.bipush 10, 2) := by decide +kernel
theorem dX9_tellPlan_62 : decode cX9_tellPlan 62 = .ok (.invokestatic 372, 3) := by decide +kernel
theorem dX9_tellPlan_65 : decode cX9_tellPlan 65 = .ok (.putfield 62, 3) := by decide +kernel
theorem dX9_tellPlan_68 : decode cX9_tellPlan 68 = .ok (.return_, 1) := by decide +kernel
theorem dX9_explainedBy_0 : decode cX9_explainedBy 0 = .ok (.iload_n 1, 1) := by decide +kernel
theorem dX9_explainedBy_1 : decode cX9_explainedBy 1 = .ok (.invokestatic 375, 3) := by decide +kernel
theorem dX9_explainedBy_4 : decode cX9_explainedBy 4 = .ok (.istore_n 2, 1) := by decide +kernel
theorem dX9_explainedBy_5 : decode cX9_explainedBy 5 = .ok (.iload_n 1, 1) := by decide +kernel
theorem dX9_explainedBy_6 : decode cX9_explainedBy 6 = .ok (.iload_n 1, 1) := by decide +kernel
theorem dX9_explainedBy_7 : decode cX9_explainedBy 7 = .ok (.iconst 1, 1) := by decide +kernel
theorem dX9_explainedBy_8 : decode cX9_explainedBy 8 = .ok (.isub, 1) := by decide +kernel
theorem dX9_explainedBy_9 : decode cX9_explainedBy 9 = .ok (.iand, 1) := by decide +kernel
theorem dX9_explainedBy_10 : decode cX9_explainedBy 10 = .ok (.istore_n 3, 1) := by decide +kernel
theorem dX9_explainedBy_11 : decode cX9_explainedBy 11 = .ok (.iload_n 3, 1) := by decide +kernel
theorem dX9_explainedBy_12 : decode cX9_explainedBy 12 = .ok (.invokestatic 375, 3) := by decide +kernel
theorem dX9_explainedBy_15 : decode cX9_explainedBy 15 = .ok (.istore 4, 2) := by decide +kernel
theorem dX9_explainedBy_17 : decode cX9_explainedBy 17 = .ok (.iconst (-1), 1) := by decide +kernel
theorem dX9_explainedBy_18 : decode cX9_explainedBy 18 = .ok (.istore 5, 2) := by decide +kernel
theorem dX9_explainedBy_20 : decode cX9_explainedBy 20 = .ok (.iload 5, 2) := by decide +kernel
theorem dX9_explainedBy_22 : decode cX9_explainedBy 22 = .ok (.aload_n 0, 1) := by decide +kernel
theorem dX9_explainedBy_23 : decode cX9_explainedBy 23 = .ok (.getfield 19, 3) := by decide +kernel
theorem dX9_explainedBy_26 : decode cX9_explainedBy 26 = .ok (.getfield 229, 3) := by decide +kernel
theorem dX9_explainedBy_29 : decode cX9_explainedBy 29 = .ok (.if_icmp .ge 97, 3) := by decide +kernel
theorem dX9_explainedBy_32 : decode cX9_explainedBy 32 = .ok (.iload 5, 2) := by decide +kernel
theorem dX9_explainedBy_34 : decode cX9_explainedBy 34 = .ok (.aload_n 0, 1) := by decide +kernel
theorem dX9_explainedBy_35 : decode cX9_explainedBy 35 = .ok (.getfield 26, 3) := by decide +kernel
theorem dX9_explainedBy_38 : decode cX9_explainedBy 38 = .ok (.getfield 133, 3) := by decide +kernel
theorem dX9_explainedBy_41 : decode cX9_explainedBy 41 = .ok (.iload_n 2, 1) := by decide +kernel
theorem dX9_explainedBy_42 : decode cX9_explainedBy 42 = .ok (.iaload, 1) := by decide +kernel
theorem dX9_explainedBy_43 : decode cX9_explainedBy 43 = .ok (.if_icmp .eq 77, 3) := by decide +kernel
theorem dX9_explainedBy_46 : decode cX9_explainedBy 46 = .ok (.iconst (-1), 1) := by decide +kernel
theorem dX9_explainedBy_47 : decode cX9_explainedBy 47 = .ok (.istore 6, 2) := by decide +kernel
theorem dX9_explainedBy_49 : decode cX9_explainedBy 49 = .ok (.iload_n 3, 1) := by decide +kernel
theorem dX9_explainedBy_50 : decode cX9_explainedBy 50 = .ok (.ifCond .ne 22, 3) := by decide +kernel
theorem dX9_explainedBy_53 : decode cX9_explainedBy 53 = .ok (.aload_n 0, 1) := by decide +kernel
theorem dX9_explainedBy_54 : decode cX9_explainedBy 54 = .ok (.getfield 51, 3) := by decide +kernel
theorem dX9_explainedBy_57 : decode cX9_explainedBy 57 = .ok (.aload_n 0, 1) := by decide +kernel
theorem dX9_explainedBy_58 : decode cX9_explainedBy 58 = .ok (.getfield 19, 3) := by decide +kernel
theorem dX9_explainedBy_61 : decode cX9_explainedBy 61 = .ok (.iload_n 2, 1) := by decide +kernel
theorem dX9_explainedBy_62 : decode cX9_explainedBy 62 = .ok (.iload 5, 2) := by decide +kernel
theorem dX9_explainedBy_64 : decode cX9_explainedBy 64 = .ok (.invokevirtual 326, 3) := by decide +kernel
theorem dX9_explainedBy_67 : decode cX9_explainedBy 67 = .ok (.istore 7, 2) := by decide +kernel
theorem dX9_explainedBy_69 : decode cX9_explainedBy 69 = .ok (.goto 35, 3) := by decide +kernel
theorem dX9_explainedBy_72 : decode cX9_explainedBy 72 = .ok (.aload_n 0, 1) := by decide +kernel
theorem dX9_explainedBy_73 : decode cX9_explainedBy 73 = .ok (.getfield 51, 3) := by decide +kernel
theorem dX9_explainedBy_76 : decode cX9_explainedBy 76 = .ok (.aload_n 0, 1) := by decide +kernel
theorem dX9_explainedBy_77 : decode cX9_explainedBy 77 = .ok (.getfield 19, 3) := by decide +kernel
theorem dX9_explainedBy_80 : decode cX9_explainedBy 80 = .ok (.iload_n 2, 1) := by decide +kernel
theorem dX9_explainedBy_81 : decode cX9_explainedBy 81 = .ok (.iload 5, 2) := by decide +kernel
theorem dX9_explainedBy_83 : decode cX9_explainedBy 83 = .ok (.iload 4, 2) := by decide +kernel
theorem dX9_explainedBy_85 : decode cX9_explainedBy 85 = .ok (.invokevirtual 378, 3) := by decide +kernel
theorem dX9_explainedBy_88 : decode cX9_explainedBy 88 = .ok (.istore 6, 2) := by decide +kernel
theorem dX9_explainedBy_90 : decode cX9_explainedBy 90 = .ok (.iload 6, 2) := by decide +kernel
theorem dX9_explainedBy_92 : decode cX9_explainedBy 92 = .ok (.bipush (-2), 2) := by decide +kernel
theorem dX9_explainedBy_94 : decode cX9_explainedBy 94 = .ok (.if_icmp .eq 7, 3) := by decide +kernel
theorem dX9_explainedBy_97 : decode cX9_explainedBy 97 = .ok (.iconst 1, 1) := by decide +kernel
theorem dX9_explainedBy_98 : decode cX9_explainedBy 98 = .ok (.goto 4, 3) := by decide +kernel
theorem dX9_explainedBy_101 : decode cX9_explainedBy 101 = .ok (.iconst 0, 1) := by decide +kernel
theorem dX9_explainedBy_102 : decode cX9_explainedBy 102 = .ok (.istore 7, 2) := by decide +kernel
theorem dX9_explainedBy_104 : decode cX9_explainedBy 104 = .ok (.iload 7, 2) := by decide +kernel
theorem dX9_explainedBy_106 : decode cX9_explainedBy 106 = .ok (.ifCond .eq 14, 3) := by decide +kernel
theorem dX9_explainedBy_109 : decode cX9_explainedBy 109 = .ok (.aload_n 0, 1) := by decide +kernel
theorem dX9_explainedBy_110 : decode cX9_explainedBy 110 = .ok (.iload_n 1, 1) := by decide +kernel
theorem dX9_explainedBy_111 : decode cX9_explainedBy 111 = .ok (.iload 5, 2) := by decide +kernel
theorem dX9_explainedBy_113 : decode cX9_explainedBy 113 = .ok (.iload 6, 2) := by decide +kernel
theorem dX9_explainedBy_115 : decode cX9_explainedBy 115 = .ok (.invokevirtual 382, 3) := by decide +kernel
theorem dX9_explainedBy_118 : decode cX9_explainedBy 118 = .ok (.iconst 1, 1) := by decide +kernel
theorem dX9_explainedBy_119 : decode cX9_explainedBy 119 = .ok (.ireturn, 1) := by decide +kernel
theorem dX9_explainedBy_120 : decode cX9_explainedBy 120 = .ok (.iinc 5 1, 3) := by decide +kernel
theorem dX9_explainedBy_123 : decode cX9_explainedBy 123 = .ok (.goto (-103), 3) := by decide +kernel
theorem dX9_explainedBy_126 : decode cX9_explainedBy 126 = .ok (.iconst 0, 1) := by decide +kernel
theorem dX9_explainedBy_127 : decode cX9_explainedBy 127 = .ok (.ireturn, 1) := by decide +kernel
theorem dX9_tellLiars_0 : decode cX9_tellLiars 0 = .ok (.aload_n 0, 1) := by decide +kernel
theorem dX9_tellLiars_1 : decode cX9_tellLiars 1 = .ok (.invokevirtual 192, 3) := by decide +kernel
theorem dX9_tellLiars_4 : decode cX9_tellLiars 4 = .ok (.aload_n 0, 1) := by decide +kernel
theorem dX9_tellLiars_5 : decode cX9_tellLiars 5 = .ok (.iload_n 1, 1) := by decide +kernel
theorem dX9_tellLiars_6 : decode cX9_tellLiars 6 = .ok (.i2l, 1) := by decide +kernel
theorem dX9_tellLiars_7 : decode cX9_tellLiars 7 = .ok (.invokevirtual 195, 3) := by decide +kernel
theorem dX9_tellLiars_10 : decode cX9_tellLiars 10 = .ok (.aload_n 0, 1) := by decide +kernel
theorem dX9_tellLiars_11 : decode cX9_tellLiars 11 = .ok (.iload_n 2, 1) := by decide +kernel
theorem dX9_tellLiars_12 : decode cX9_tellLiars 12 = .ok (.i2l, 1) := by decide +kernel
theorem dX9_tellLiars_13 : decode cX9_tellLiars 13 = .ok (.invokevirtual 195, 3) := by decide +kernel
theorem dX9_tellLiars_16 : decode cX9_tellLiars 16 = .ok (.iload_n 1, 1) := by decide +kernel
theorem dX9_tellLiars_17 : decode cX9_tellLiars 17 = .ok (.invokestatic 272, 3) := by decide +kernel
theorem dX9_tellLiars_20 : decode cX9_tellLiars 20 = .ok (.iconst 1, 1) := by decide +kernel
theorem dX9_tellLiars_21 : decode cX9_tellLiars 21 = .ok (.if_icmp .le 9, 3) := by decide +kernel
theorem dX9_tellLiars_24 : decode cX9_tellLiars 24 = .ok (.aload_n 0, 1) := by decide +kernel
theorem dX9_tellLiars_25 : decode cX9_tellLiars 25 = .ok (.iload_n 3, 1) := by decide +kernel
theorem dX9_tellLiars_26 : decode cX9_tellLiars 26 = .ok (.i2l, 1) := by decide +kernel
theorem dX9_tellLiars_27 : decode cX9_tellLiars 27 = .ok (.invokevirtual 195, 3) := by decide +kernel
theorem dX9_tellLiars_30 : decode cX9_tellLiars 30 = .ok (.return_, 1) := by decide +kernel
theorem dX9_addChance_0 : decode cX9_addChance 0 = .ok (.iload_n 1, 1) := by decide +kernel
theorem dX9_addChance_1 : decode cX9_addChance 1 = .ok (.ifCond .lt 19, 3) := by decide +kernel
theorem dX9_addChance_4 : decode cX9_addChance 4 = .ok (.iload_n 1, 1) := by decide +kernel
theorem dX9_addChance_5 : decode cX9_addChance 5 = .ok (.bipush 9, 2) := by decide +kernel
theorem dX9_addChance_7 : decode cX9_addChance 7 = .ok (.if_icmp .ge 13, 3) := by decide +kernel
theorem dX9_addChance_10 : decode cX9_addChance 10 = .ok (.aload_n 0, 1) := by decide +kernel
theorem dX9_addChance_11 : decode cX9_addChance 11 = .ok (.getfield 55, 3) := by decide +kernel
theorem dX9_addChance_14 : decode cX9_addChance 14 = .ok (.iload_n 1, 1) := by decide +kernel
theorem dX9_addChance_15 : decode cX9_addChance 15 = .ok (.dup2, 1) := by decide +kernel
theorem dX9_addChance_16 : decode cX9_addChance 16 = .ok (.laload, 1) := by decide +kernel
theorem dX9_addChance_17 : decode cX9_addChance 17 = .ok (.lload_n 2, 1) := by decide +kernel
theorem dX9_addChance_18 : decode cX9_addChance 18 = .ok (.ladd, 1) := by decide +kernel
theorem dX9_addChance_19 : decode cX9_addChance 19 = .ok (.lastore, 1) := by decide +kernel
theorem dX9_addChance_20 : decode cX9_addChance 20 = .ok (.return_, 1) := by decide +kernel
theorem dX9_weighStops_0 : decode cX9_weighStops 0 = .ok (.aload_n 0, 1) := by decide +kernel
theorem dX9_weighStops_1 : decode cX9_weighStops 1 = .ok (.getfield 55, 3) := by decide +kernel
theorem dX9_weighStops_4 : decode cX9_weighStops 4 = .ok (.lconst 0, 1) := by decide +kernel
theorem dX9_weighStops_5 : decode cX9_weighStops 5 = .ok (.invokestatic 240, 3) := by decide +kernel
theorem dX9_weighStops_8 : decode cX9_weighStops 8 = .ok (.aload_n 0, 1) := by decide +kernel
theorem dX9_weighStops_9 : decode cX9_weighStops 9 = .ok (.getfield 30, 3) := by decide +kernel
theorem dX9_weighStops_12 : decode cX9_weighStops 12 = .ok (.aload_n 0, 1) := by decide +kernel
theorem dX9_weighStops_13 : decode cX9_weighStops 13 = .ok (.getfield 26, 3) := by decide +kernel
theorem dX9_weighStops_16 : decode cX9_weighStops 16 = .ok (.invokevirtual 259, 3) := by decide +kernel
theorem dX9_weighStops_19 : decode cX9_weighStops 19 = .ok (.aload_n 0, 1) := by decide +kernel
theorem dX9_weighStops_20 : decode cX9_weighStops 20 = .ok (.getfield 26, 3) := by decide +kernel
theorem dX9_weighStops_23 : decode cX9_weighStops 23 = .ok (.getfield 142, 3) := by decide +kernel
theorem dX9_weighStops_26 : decode cX9_weighStops 26 = .ok (.invokestatic 246, 3) := by decide +kernel
theorem dX9_weighStops_29 : decode cX9_weighStops 29 = .ok (.istore_n 1, 1) := by decide +kernel
theorem dX9_weighStops_30 : decode cX9_weighStops 30 = .ok (.iconst 0, 1) := by decide +kernel
theorem dX9_weighStops_31 : decode cX9_weighStops 31 = .ok (.istore_n 2, 1) := by decide +kernel
theorem dX9_weighStops_32 : decode cX9_weighStops 32 = .ok (.lconst 0, 1) := by decide +kernel
theorem dX9_weighStops_33 : decode cX9_weighStops 33 = .ok (.lstore_n 3, 1) := by decide +kernel
theorem dX9_weighStops_34 : decode cX9_weighStops 34 = .ok (.iconst 0, 1) := by decide +kernel
theorem dX9_weighStops_35 : decode cX9_weighStops 35 = .ok (.istore 5, 2) := by decide +kernel
theorem dX9_weighStops_37 : decode cX9_weighStops 37 = .ok (.iload 5, 2) := by decide +kernel
theorem dX9_weighStops_39 : decode cX9_weighStops 39 = .ok (.iload_n 1, 1) := by decide +kernel
theorem dX9_weighStops_40 : decode cX9_weighStops 40 = .ok (.if_icmp .ge 64, 3) := by decide +kernel
theorem dX9_weighStops_43 : decode cX9_weighStops 43 = .ok (.aload_n 0, 1) := by decide +kernel
theorem dX9_weighStops_44 : decode cX9_weighStops 44 = .ok (.iload_n 2, 1) := by decide +kernel
theorem dX9_weighStops_45 : decode cX9_weighStops 45 = .ok (.invokevirtual 385, 3) := by decide +kernel
theorem dX9_weighStops_48 : decode cX9_weighStops 48 = .ok (.lstore 6, 2) := by decide +kernel
theorem dX9_weighStops_50 : decode cX9_weighStops 50 = .ok (.lload 6, 2) := by decide +kernel
theorem dX9_weighStops_52 : decode cX9_weighStops 52 = .ok (.lconst 0, 1) := by decide +kernel
theorem dX9_weighStops_53 : decode cX9_weighStops 53 = .ok (.lcmp, 1) := by decide +kernel
theorem dX9_weighStops_54 : decode cX9_weighStops 54 = .ok (.ifCond .le 32, 3) := by decide +kernel
theorem dX9_weighStops_57 : decode cX9_weighStops 57 = .ok (.aload_n 0, 1) := by decide +kernel
theorem dX9_weighStops_58 : decode cX9_weighStops 58 = .ok (.aload_n 0, 1) := by decide +kernel
theorem dX9_weighStops_59 : decode cX9_weighStops 59 = .ok (.getfield 19, 3) := by decide +kernel
theorem dX9_weighStops_62 : decode cX9_weighStops 62 = .ok (.aload_n 0, 1) := by decide +kernel
theorem dX9_weighStops_63 : decode cX9_weighStops 63 = .ok (.getfield 30, 3) := by decide +kernel
theorem dX9_weighStops_66 : decode cX9_weighStops 66 = .ok (.aload_n 0, 1) := by decide +kernel
theorem dX9_weighStops_67 : decode cX9_weighStops 67 = .ok (.getfield 26, 3) := by decide +kernel
theorem dX9_weighStops_70 : decode cX9_weighStops 70 = .ok (.getfield 142, 3) := by decide +kernel
theorem dX9_weighStops_73 : decode cX9_weighStops 73 = .ok (.invokevirtual 218, 3) := by decide +kernel
theorem dX9_weighStops_76 : decode cX9_weighStops 76 = .ok (.lload 6, 2) := by decide +kernel
theorem dX9_weighStops_78 : decode cX9_weighStops 78 = .ok (.invokevirtual 249, 3) := by decide +kernel
theorem dX9_weighStops_81 : decode cX9_weighStops 81 = .ok (.lload_n 3, 1) := by decide +kernel
theorem dX9_weighStops_82 : decode cX9_weighStops 82 = .ok (.lload 6, 2) := by decide +kernel
theorem dX9_weighStops_84 : decode cX9_weighStops 84 = .ok (.ladd, 1) := by decide +kernel
theorem dX9_weighStops_85 : decode cX9_weighStops 85 = .ok (.lstore_n 3, 1) := by decide +kernel
theorem dX9_weighStops_86 : decode cX9_weighStops 86 = .ok (.iload_n 2, 1) := by decide +kernel
theorem dX9_weighStops_87 : decode cX9_weighStops 87 = .ok (.aload_n 0, 1) := by decide +kernel
theorem dX9_weighStops_88 : decode cX9_weighStops 88 = .ok (.getfield 26, 3) := by decide +kernel
theorem dX9_weighStops_91 : decode cX9_weighStops 91 = .ok (.getfield 142, 3) := by decide +kernel
theorem dX9_weighStops_94 : decode cX9_weighStops 94 = .ok (.invokestatic 253, 3) := by decide +kernel
theorem dX9_weighStops_97 : decode cX9_weighStops 97 = .ok (.istore_n 2, 1) := by decide +kernel
theorem dX9_weighStops_98 : decode cX9_weighStops 98 = .ok (.iinc 5 1, 3) := by decide +kernel
theorem dX9_weighStops_101 : decode cX9_weighStops 101 = .ok (.goto (-64), 3) := by decide +kernel
theorem dX9_weighStops_104 : decode cX9_weighStops 104 = .ok (.lload_n 3, 1) := by decide +kernel
theorem dX9_weighStops_105 : decode cX9_weighStops 105 = .ok (.lreturn, 1) := by decide +kernel
theorem dX9_weightOf_0 : decode cX9_weightOf 0 = .ok (.lconst 1, 1) := by decide +kernel
theorem dX9_weightOf_1 : decode cX9_weightOf 1 = .ok (.lstore_n 2, 1) := by decide +kernel
theorem dX9_weightOf_2 : decode cX9_weightOf 2 = .ok (.iconst 0, 1) := by decide +kernel
theorem dX9_weightOf_3 : decode cX9_weightOf 3 = .ok (.istore 4, 2) := by decide +kernel
theorem dX9_weightOf_5 : decode cX9_weightOf 5 = .ok (.iload 4, 2) := by decide +kernel
theorem dX9_weightOf_7 : decode cX9_weightOf 7 = .ok (.aload_n 0, 1) := by decide +kernel
theorem dX9_weightOf_8 : decode cX9_weightOf 8 = .ok (.getfield 19, 3) := by decide +kernel
theorem dX9_weightOf_11 : decode cX9_weightOf 11 = .ok (.getfield 154, 3) := by decide +kernel
theorem dX9_weightOf_14 : decode cX9_weightOf 14 = .ok (.if_icmp .ge 111, 3) := by decide +kernel
theorem dX9_weightOf_17 : decode cX9_weightOf 17 = .ok (.aload_n 0, 1) := by decide +kernel
theorem dX9_weightOf_18 : decode cX9_weightOf 18 = .ok (.getfield 26, 3) := by decide +kernel
theorem dX9_weightOf_21 : decode cX9_weightOf 21 = .ok (.iload 4, 2) := by decide +kernel
theorem dX9_weightOf_23 : decode cX9_weightOf 23 = .ok (.invokevirtual 185, 3) := by decide +kernel
theorem dX9_weightOf_26 : decode cX9_weightOf 26 = .ok (.ifCond .eq 93, 3) := by decide +kernel
theorem dX9_weightOf_29 : decode cX9_weightOf 29 = .ok (.iload_n 1, 1) := by decide +kernel
theorem dX9_weightOf_30 : decode cX9_weightOf 30 = .ok (.iload 4, 2) := by decide +kernel
theorem dX9_weightOf_32 : decode cX9_weightOf 32 = .ok (.ishr, 1) := by decide +kernel
theorem dX9_weightOf_33 : decode cX9_weightOf 33 = .ok (.iconst 1, 1) := by decide +kernel
theorem dX9_weightOf_34 : decode cX9_weightOf 34 = .ok (.iand, 1) := by decide +kernel
theorem dX9_weightOf_35 : decode cX9_weightOf 35 = .ok (.ifCond .eq 7, 3) := by decide +kernel
theorem dX9_weightOf_38 : decode cX9_weightOf 38 = .ok (.iconst 1, 1) := by decide +kernel
theorem dX9_weightOf_39 : decode cX9_weightOf 39 = .ok (.goto 4, 3) := by decide +kernel
theorem dX9_weightOf_42 : decode cX9_weightOf 42 = .ok (.iconst 0, 1) := by decide +kernel
theorem dX9_weightOf_43 : decode cX9_weightOf 43 = .ok (.istore 5, 2) := by decide +kernel
theorem dX9_weightOf_45 : decode cX9_weightOf 45 = .ok (.lload_n 2, 1) := by decide +kernel
theorem dX9_weightOf_46 : decode cX9_weightOf 46 = .ok (.iload 5, 2) := by decide +kernel
theorem dX9_weightOf_48 : decode cX9_weightOf 48 = .ok (.ifCond .eq 17, 3) := by decide +kernel
theorem dX9_weightOf_51 : decode cX9_weightOf 51 = .ok (.aload_n 0, 1) := by decide +kernel
theorem dX9_weightOf_52 : decode cX9_weightOf 52 = .ok (.getfield 19, 3) := by decide +kernel
theorem dX9_weightOf_55 : decode cX9_weightOf 55 = .ok (.getfield 136, 3) := by decide +kernel
theorem dX9_weightOf_58 : decode cX9_weightOf 58 = .ok (.iload 4, 2) := by decide +kernel
theorem dX9_weightOf_60 : decode cX9_weightOf 60 = .ok (.iaload, 1) := by decide +kernel
theorem dX9_weightOf_61 : decode cX9_weightOf 61 = .ok (.i2l, 1) := by decide +kernel
theorem dX9_weightOf_62 : decode cX9_weightOf 62 = .ok (.goto 17, 3) := by decide +kernel
theorem dX9_weightOf_65 : decode cX9_weightOf 65 = .ok (.bipush 10, 2) := by decide +kernel
theorem dX9_weightOf_67 : decode cX9_weightOf 67 = .ok (.aload_n 0, 1) := by decide +kernel
theorem dX9_weightOf_68 : decode cX9_weightOf 68 = .ok (.getfield 19, 3) := by decide +kernel
theorem dX9_weightOf_71 : decode cX9_weightOf 71 = .ok (.getfield 136, 3) := by decide +kernel
theorem dX9_weightOf_74 : decode cX9_weightOf 74 = .ok (.iload 4, 2) := by decide +kernel
theorem dX9_weightOf_76 : decode cX9_weightOf 76 = .ok (.iaload, 1) := by decide +kernel
theorem dX9_weightOf_77 : decode cX9_weightOf 77 = .ok (.isub, 1) := by decide +kernel
theorem dX9_weightOf_78 : decode cX9_weightOf 78 = .ok (.i2l, 1) := by decide +kernel
theorem dX9_weightOf_79 : decode cX9_weightOf 79 = .ok (.lmul, 1) := by decide +kernel
theorem dX9_weightOf_80 : decode cX9_weightOf 80 = .ok (.lstore_n 2, 1) := by decide +kernel
theorem dX9_weightOf_81 : decode cX9_weightOf 81 = .ok (.aload_n 0, 1) := by decide +kernel
theorem dX9_weightOf_82 : decode cX9_weightOf 82 = .ok (.getfield 30, 3) := by decide +kernel
theorem dX9_weightOf_85 : decode cX9_weightOf 85 = .ok (.getfield 133, 3) := by decide +kernel
theorem dX9_weightOf_88 : decode cX9_weightOf 88 = .ok (.iload 4, 2) := by decide +kernel
theorem dX9_weightOf_90 : decode cX9_weightOf 90 = .ok (.iload 5, 2) := by decide +kernel
theorem dX9_weightOf_92 : decode cX9_weightOf 92 = .ok (.ifCond .eq 16, 3) := by decide +kernel
theorem dX9_weightOf_95 : decode cX9_weightOf 95 = .ok (.aload_n 0, 1) := by decide +kernel
theorem dX9_weightOf_96 : decode cX9_weightOf 96 = .ok (.getfield 19, 3) := by decide +kernel
theorem dX9_weightOf_99 : decode cX9_weightOf 99 = .ok (.getfield 129, 3) := by decide +kernel
theorem dX9_weightOf_102 : decode cX9_weightOf 102 = .ok (.iload 4, 2) := by decide +kernel
theorem dX9_weightOf_104 : decode cX9_weightOf 104 = .ok (.iaload, 1) := by decide +kernel
theorem dX9_weightOf_105 : decode cX9_weightOf 105 = .ok (.goto 13, 3) := by decide +kernel
theorem dX9_weightOf_108 : decode cX9_weightOf 108 = .ok (.aload_n 0, 1) := by decide +kernel
theorem dX9_weightOf_109 : decode cX9_weightOf 109 = .ok (.getfield 26, 3) := by decide +kernel
theorem dX9_weightOf_112 : decode cX9_weightOf 112 = .ok (.getfield 133, 3) := by decide +kernel
theorem dX9_weightOf_115 : decode cX9_weightOf 115 = .ok (.iload 4, 2) := by decide +kernel
theorem dX9_weightOf_117 : decode cX9_weightOf 117 = .ok (.iaload, 1) := by decide +kernel
theorem dX9_weightOf_118 : decode cX9_weightOf 118 = .ok (.iastore, 1) := by decide +kernel
theorem dX9_weightOf_119 : decode cX9_weightOf 119 = .ok (.iinc 4 1, 3) := by decide +kernel
theorem dX9_weightOf_122 : decode cX9_weightOf 122 = .ok (.goto (-117), 3) := by decide +kernel
theorem dX9_weightOf_125 : decode cX9_weightOf 125 = .ok (.lload_n 2, 1) := by decide +kernel
theorem dX9_weightOf_126 : decode cX9_weightOf 126 = .ok (.lreturn, 1) := by decide +kernel
