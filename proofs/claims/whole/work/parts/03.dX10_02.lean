theorem dX10_then_8 : decode cX10_then 8 = .ok (.ldc2_w 320, 3) := by decide +kernel
theorem dX10_then_11 : decode cX10_then 11 = .ok (.invokestatic 25, 3) := by decide +kernel
theorem dX10_then_14 : decode cX10_then 14 = .ok (.ifCond .ne 5, 3) := by decide +kernel
theorem dX10_then_17 : decode cX10_then 17 = .ok (.iconst (-1), 1) := by decide +kernel
theorem dX10_then_18 : decode cX10_then 18 = .ok (.ireturn, 1) := by decide +kernel
theorem dX10_then_19 : decode cX10_then 19 = .ok (.aload_n 0, 1) := by decide +kernel
theorem dX10_then_20 : decode cX10_then 20 = .ok (.getfield 79, 3) := by decide +kernel
theorem dX10_then_23 : decode cX10_then 23 = .ok (.aload_n 0, 1) := by decide +kernel
theorem dX10_then_24 : decode cX10_then 24 = .ok (.getfield 313, 3) := by decide +kernel
theorem dX10_then_27 : decode cX10_then 27 = .ok (.invokestatic 316, 3) := by decide +kernel
theorem dX10_then_30 : decode cX10_then 30 = .ok (.iconst 0, 1) := by decide +kernel
theorem dX10_then_31 : decode cX10_then 31 = .ok (.istore_n 2, 1) := by decide +kernel
theorem dX10_then_32 : decode cX10_then 32 = .ok (.aload_n 0, 1) := by decide +kernel
theorem dX10_then_33 : decode cX10_then 33 = .ok (.iconst 0, 1) := by decide +kernel
theorem dX10_then_34 : decode cX10_then 34 = .ok (.putfield 15, 3) := by decide +kernel
theorem dX10_then_37 : decode cX10_then 37 = .ok (.iconst 0, 1) := by decide +kernel
theorem dX10_then_38 : decode cX10_then 38 = .ok (.istore_n 3, 1) := by decide +kernel
theorem dX10_then_39 : decode cX10_then 39 = .ok (.iload_n 3, 1) := by decide +kernel
theorem dX10_then_40 : decode cX10_then 40 = .ok (.iload_n 1, 1) := by decide +kernel
theorem dX10_then_41 : decode cX10_then 41 = .ok (.if_icmp .ge 42, 3) := by decide +kernel
theorem dX10_then_44 : decode cX10_then 44 = .ok (.iload_n 2, 1) := by decide +kernel
theorem dX10_then_45 : decode cX10_then 45 = .ok (.aload_n 0, 1) := by decide +kernel
theorem dX10_then_46 : decode cX10_then 46 = .ok (.aload_n 0, 1) := by decide +kernel
theorem dX10_then_47 : decode cX10_then 47 = .ok (.getfield 313, 3) := by decide +kernel
theorem dX10_then_50 : decode cX10_then 50 = .ok (.aload_n 0, 1) := by decide +kernel
theorem dX10_then_51 : decode cX10_then 51 = .ok (.getfield 313, 3) := by decide +kernel
theorem dX10_then_54 : decode cX10_then 54 = .ok (.bipush 30, 2) := by decide +kernel
theorem dX10_then_56 : decode cX10_then 56 = .ok (.iaload, 1) := by decide +kernel
theorem dX10_then_57 : decode cX10_then 57 = .ok (.invokevirtual 261, 3) := by decide +kernel
theorem dX10_then_60 : decode cX10_then 60 = .ok (.invokestatic 175, 3) := by decide +kernel
theorem dX10_then_63 : decode cX10_then 63 = .ok (.iadd, 1) := by decide +kernel
theorem dX10_then_64 : decode cX10_then 64 = .ok (.istore_n 2, 1) := by decide +kernel
theorem dX10_then_65 : decode cX10_then 65 = .ok (.aload_n 0, 1) := by decide +kernel
theorem dX10_then_66 : decode cX10_then 66 = .ok (.aload_n 0, 1) := by decide +kernel
theorem dX10_then_67 : decode cX10_then 67 = .ok (.getfield 313, 3) := by decide +kernel
theorem dX10_then_70 : decode cX10_then 70 = .ok (.bipush 31, 2) := by decide +kernel
theorem dX10_then_72 : decode cX10_then 72 = .ok (.iaload, 1) := by decide +kernel
theorem dX10_then_73 : decode cX10_then 73 = .ok (.i2l, 1) := by decide +kernel
theorem dX10_then_74 : decode cX10_then 74 = .ok (.invokevirtual 18, 3) := by decide +kernel
theorem dX10_then_77 : decode cX10_then 77 = .ok (.iinc 3 1, 3) := by decide +kernel
theorem dX10_then_80 : decode cX10_then 80 = .ok (.goto (-41), 3) := by decide +kernel
theorem dX10_then_83 : decode cX10_then 83 = .ok (.iload_n 2, 1) := by decide +kernel
theorem dX10_then_84 : decode cX10_then 84 = .ok (.ireturn, 1) := by decide +kernel
theorem dX10_since_0 : decode cX10_since 0 = .ok (.aload_n 0, 1) := by decide +kernel
theorem dX10_since_1 : decode cX10_since 1 = .ok (.iconst 0, 1) := by decide +kernel
theorem dX10_since_2 : decode cX10_since 2 = .ok (.putfield 3, 3) := by decide +kernel
theorem dX10_since_5 : decode cX10_since 5 = .ok (.aload_n 0, 1) := by decide +kernel
theorem dX10_since_6 : decode cX10_since 6 = .ok (.iload_n 1, 1) := by decide +kernel
theorem dX10_since_7 : decode cX10_since 7 = .ok (.invokevirtual 258, 3) := by decide +kernel
theorem dX10_since_10 : decode cX10_since 10 = .ok (.ifCond .ne 5, 3) := by decide +kernel
theorem dX10_since_13 : decode cX10_since 13 = .ok (.iconst (-1), 1) := by decide +kernel
theorem dX10_since_14 : decode cX10_since 14 = .ok (.ireturn, 1) := by decide +kernel
theorem dX10_since_15 : decode cX10_since 15 = .ok (.aload_n 0, 1) := by decide +kernel
theorem dX10_since_16 : decode cX10_since 16 = .ok (.invokevirtual 322, 3) := by decide +kernel
theorem dX10_since_19 : decode cX10_since 19 = .ok (.ifCond .eq 6, 3) := by decide +kernel
theorem dX10_since_22 : decode cX10_since 22 = .ok (.bipush (-4), 2) := by decide +kernel
theorem dX10_since_24 : decode cX10_since 24 = .ok (.ireturn, 1) := by decide +kernel
theorem dX10_since_25 : decode cX10_since 25 = .ok (.aload_n 0, 1) := by decide +kernel
theorem dX10_since_26 : decode cX10_since 26 = .ok (.getfield 79, 3) := by decide +kernel
theorem dX10_since_29 : decode cX10_since 29 = .ok (.aload_n 0, 1) := by decide +kernel
theorem dX10_since_30 : decode cX10_since 30 = .ok (.getfield 313, 3) := by decide +kernel
theorem dX10_since_33 : decode cX10_since 33 = .ok (.invokestatic 316, 3) := by decide +kernel
theorem dX10_since_36 : decode cX10_since 36 = .ok (.iconst 1, 1) := by decide +kernel
theorem dX10_since_37 : decode cX10_since 37 = .ok (.istore_n 2, 1) := by decide +kernel
theorem dX10_since_38 : decode cX10_since 38 = .ok (.iload_n 2, 1) := by decide +kernel
theorem dX10_since_39 : decode cX10_since 39 = .ok (.sipush 693, 3) := by decide +kernel
theorem dX10_since_42 : decode cX10_since 42 = .ok (.if_icmp .gt 33, 3) := by decide +kernel
theorem dX10_since_45 : decode cX10_since 45 = .ok (.aload_n 0, 1) := by decide +kernel
theorem dX10_since_46 : decode cX10_since 46 = .ok (.aload_n 0, 1) := by decide +kernel
theorem dX10_since_47 : decode cX10_since 47 = .ok (.getfield 313, 3) := by decide +kernel
theorem dX10_since_50 : decode cX10_since 50 = .ok (.aload_n 0, 1) := by decide +kernel
theorem dX10_since_51 : decode cX10_since 51 = .ok (.getfield 313, 3) := by decide +kernel
theorem dX10_since_54 : decode cX10_since 54 = .ok (.bipush 30, 2) := by decide +kernel
theorem dX10_since_56 : decode cX10_since 56 = .ok (.iaload, 1) := by decide +kernel
theorem dX10_since_57 : decode cX10_since 57 = .ok (.invokevirtual 261, 3) := by decide +kernel
theorem dX10_since_60 : decode cX10_since 60 = .ok (.iload_n 1, 1) := by decide +kernel
theorem dX10_since_61 : decode cX10_since 61 = .ok (.invokestatic 195, 3) := by decide +kernel
theorem dX10_since_64 : decode cX10_since 64 = .ok (.ifCond .eq 5, 3) := by decide +kernel
theorem dX10_since_67 : decode cX10_since 67 = .ok (.iload_n 2, 1) := by decide +kernel
theorem dX10_since_68 : decode cX10_since 68 = .ok (.ireturn, 1) := by decide +kernel
theorem dX10_since_69 : decode cX10_since 69 = .ok (.iinc 2 1, 3) := by decide +kernel
theorem dX10_since_72 : decode cX10_since 72 = .ok (.goto (-34), 3) := by decide +kernel
theorem dX10_since_75 : decode cX10_since 75 = .ok (.bipush (-2), 2) := by decide +kernel
theorem dX10_since_77 : decode cX10_since 77 = .ok (.ireturn, 1) := by decide +kernel
theorem dX10_comeHome_0 : decode cX10_comeHome 0 = .ok (.aload_n 0, 1) := by decide +kernel
theorem dX10_comeHome_1 : decode cX10_comeHome 1 = .ok (.getfield 79, 3) := by decide +kernel
theorem dX10_comeHome_4 : decode cX10_comeHome 4 = .ok (.aload_n 0, 1) := by decide +kernel
theorem dX10_comeHome_5 : decode cX10_comeHome 5 = .ok (.getfield 313, 3) := by decide +kernel
theorem dX10_comeHome_8 : decode cX10_comeHome 8 = .ok (.invokestatic 316, 3) := by decide +kernel
theorem dX10_comeHome_11 : decode cX10_comeHome 11 = .ok (.aload_n 0, 1) := by decide +kernel
theorem dX10_comeHome_12 : decode cX10_comeHome 12 = .ok (.getfield 313, 3) := by decide +kernel
theorem dX10_comeHome_15 : decode cX10_comeHome 15 = .ok (.bipush 30, 2) := by decide +kernel
theorem dX10_comeHome_17 : decode cX10_comeHome 17 = .ok (.iload_n 1, 1) := by decide +kernel
theorem dX10_comeHome_18 : decode cX10_comeHome 18 = .ok (.iastore, 1) := by decide +kernel
theorem dX10_comeHome_19 : decode cX10_comeHome 19 = .ok (.iconst 0, 1) := by decide +kernel
theorem dX10_comeHome_20 : decode cX10_comeHome 20 = .ok (.istore_n 3, 1) := by decide +kernel
theorem dX10_comeHome_21 : decode cX10_comeHome 21 = .ok (.iconst 0, 1) := by decide +kernel
theorem dX10_comeHome_22 : decode cX10_comeHome 22 = .ok (.istore 4, 2) := by decide +kernel
theorem dX10_comeHome_24 : decode cX10_comeHome 24 = .ok (.iload 4, 2) := by decide +kernel
theorem dX10_comeHome_26 : decode cX10_comeHome 26 = .ok (.iload_n 2, 1) := by decide +kernel
theorem dX10_comeHome_27 : decode cX10_comeHome 27 = .ok (.if_icmp .ge 27, 3) := by decide +kernel
theorem dX10_comeHome_30 : decode cX10_comeHome 30 = .ok (.iload_n 3, 1) := by decide +kernel
theorem dX10_comeHome_31 : decode cX10_comeHome 31 = .ok (.aload_n 0, 1) := by decide +kernel
theorem dX10_comeHome_32 : decode cX10_comeHome 32 = .ok (.aload_n 0, 1) := by decide +kernel
theorem dX10_comeHome_33 : decode cX10_comeHome 33 = .ok (.getfield 313, 3) := by decide +kernel
theorem dX10_comeHome_36 : decode cX10_comeHome 36 = .ok (.aload_n 0, 1) := by decide +kernel
theorem dX10_comeHome_37 : decode cX10_comeHome 37 = .ok (.getfield 313, 3) := by decide +kernel
theorem dX10_comeHome_40 : decode cX10_comeHome 40 = .ok (.bipush 30, 2) := by decide +kernel
theorem dX10_comeHome_42 : decode cX10_comeHome 42 = .ok (.iaload, 1) := by decide +kernel
theorem dX10_comeHome_43 : decode cX10_comeHome 43 = .ok (.invokevirtual 261, 3) := by decide +kernel
theorem dX10_comeHome_46 : decode cX10_comeHome 46 = .ok (.ior, 1) := by decide +kernel
theorem dX10_comeHome_47 : decode cX10_comeHome 47 = .ok (.istore_n 3, 1) := by decide +kernel
theorem dX10_comeHome_48 : decode cX10_comeHome 48 = .ok (.iinc 4 1, 3) := by decide +kernel
theorem dX10_comeHome_51 : decode cX10_comeHome 51 = .ok (.goto (-27), 3) := by decide +kernel
theorem dX10_comeHome_54 : decode cX10_comeHome 54 = .ok (.iload_n 3, 1) := by decide +kernel
theorem dX10_comeHome_55 : decode cX10_comeHome 55 = .ok (.ireturn, 1) := by decide +kernel
theorem dX10_ballast_0 : decode cX10_ballast 0 = .ok (.aload_n 0, 1) := by decide +kernel
theorem dX10_ballast_1 : decode cX10_ballast 1 = .ok (.iconst 0, 1) := by decide +kernel
theorem dX10_ballast_2 : decode cX10_ballast 2 = .ok (.putfield 3, 3) := by decide +kernel
theorem dX10_ballast_5 : decode cX10_ballast 5 = .ok (.aload_n 0, 1) := by decide +kernel
theorem dX10_ballast_6 : decode cX10_ballast 6 = .ok (.iload_n 1, 1) := by decide +kernel
theorem dX10_ballast_7 : decode cX10_ballast 7 = .ok (.invokevirtual 258, 3) := by decide +kernel
theorem dX10_ballast_10 : decode cX10_ballast 10 = .ok (.ifCond .eq 15, 3) := by decide +kernel
theorem dX10_ballast_13 : decode cX10_ballast 13 = .ok (.iload_n 2, 1) := by decide +kernel
theorem dX10_ballast_14 : decode cX10_ballast 14 = .ok (.i2l, 1) := by decide +kernel
theorem dX10_ballast_15 : decode cX10_ballast 15 = .ok (.lconst 0, 1) := by decide +kernel
theorem dX10_ballast_16 : decode cX10_ballast 16 = .ok (.ldc2_w 325, 3) := by decide +kernel
theorem dX10_ballast_19 : decode cX10_ballast 19 = .ok (.invokestatic 25, 3) := by decide +kernel
theorem dX10_ballast_22 : decode cX10_ballast 22 = .ok (.ifCond .ne 8, 3) := by decide +kernel
theorem dX10_ballast_25 : decode cX10_ballast 25 = .ok (.aload_n 0, 1) := by decide +kernel
theorem dX10_ballast_26 : decode cX10_ballast 26 = .ok (.invokevirtual 231, 3) := by decide +kernel
theorem dX10_ballast_29 : decode cX10_ballast 29 = .ok (.ireturn, 1) := by decide +kernel
theorem dX10_ballast_30 : decode cX10_ballast 30 = .ok (.aload_n 0, 1) := by decide +kernel
theorem dX10_ballast_31 : decode cX10_ballast 31 = .ok (.aload_n 0, 1) := by decide +kernel
theorem dX10_ballast_32 : decode cX10_ballast 32 = .ok (.getfield 79, 3) := by decide +kernel
theorem dX10_ballast_35 : decode cX10_ballast 35 = .ok (.bipush 30, 2) := by decide +kernel
theorem dX10_ballast_37 : decode cX10_ballast 37 = .ok (.iaload, 1) := by decide +kernel
theorem dX10_ballast_38 : decode cX10_ballast 38 = .ok (.iload_n 2, 1) := by decide +kernel
theorem dX10_ballast_39 : decode cX10_ballast 39 = .ok (.invokevirtual 327, 3) := by decide +kernel
theorem dX10_ballast_42 : decode cX10_ballast 42 = .ok (.iconst 1, 1) := by decide +kernel
theorem dX10_ballast_43 : decode cX10_ballast 43 = .ok (.iload_n 1, 1) := by decide +kernel
theorem dX10_ballast_44 : decode cX10_ballast 44 = .ok (.ishl, 1) := by decide +kernel
theorem dX10_ballast_45 : decode cX10_ballast 45 = .ok (.iconst (-1), 1) := by decide +kernel
theorem dX10_ballast_46 : decode cX10_ballast 46 = .ok (.ixor, 1) := by decide +kernel
theorem dX10_ballast_47 : decode cX10_ballast 47 = .ok (.iand, 1) := by decide +kernel
theorem dX10_ballast_48 : decode cX10_ballast 48 = .ok (.istore_n 3, 1) := by decide +kernel
theorem dX10_ballast_49 : decode cX10_ballast 49 = .ok (.iload_n 3, 1) := by decide +kernel
theorem dX10_ballast_50 : decode cX10_ballast 50 = .ok (.invokestatic 175, 3) := by decide +kernel
theorem dX10_ballast_53 : decode cX10_ballast 53 = .ok (.aload_n 0, 1) := by decide +kernel
theorem dX10_ballast_54 : decode cX10_ballast 54 = .ok (.aload_n 0, 1) := by decide +kernel
theorem dX10_ballast_55 : decode cX10_ballast 55 = .ok (.getfield 79, 3) := by decide +kernel
theorem dX10_ballast_58 : decode cX10_ballast 58 = .ok (.bipush 30, 2) := by decide +kernel
theorem dX10_ballast_60 : decode cX10_ballast 60 = .ok (.iaload, 1) := by decide +kernel
theorem dX10_ballast_61 : decode cX10_ballast 61 = .ok (.iconst 1, 1) := by decide +kernel
theorem dX10_ballast_62 : decode cX10_ballast 62 = .ok (.iload_n 1, 1) := by decide +kernel
theorem dX10_ballast_63 : decode cX10_ballast 63 = .ok (.ishl, 1) := by decide +kernel
theorem dX10_ballast_64 : decode cX10_ballast 64 = .ok (.iconst (-1), 1) := by decide +kernel
theorem dX10_ballast_65 : decode cX10_ballast 65 = .ok (.ixor, 1) := by decide +kernel
theorem dX10_ballast_66 : decode cX10_ballast 66 = .ok (.iand, 1) := by decide +kernel
theorem dX10_ballast_67 : decode cX10_ballast 67 = .ok (.iload_n 2, 1) := by decide +kernel
theorem dX10_ballast_68 : decode cX10_ballast 68 = .ok (.invokevirtual 327, 3) := by decide +kernel
theorem dX10_ballast_71 : decode cX10_ballast 71 = .ok (.invokestatic 175, 3) := by decide +kernel
theorem dX10_ballast_74 : decode cX10_ballast 74 = .ok (.isub, 1) := by decide +kernel
theorem dX10_ballast_75 : decode cX10_ballast 75 = .ok (.ireturn, 1) := by decide +kernel
theorem dX10_hinders_0 : decode cX10_hinders 0 = .ok (.aload_n 0, 1) := by decide +kernel
theorem dX10_hinders_1 : decode cX10_hinders 1 = .ok (.iconst 0, 1) := by decide +kernel
theorem dX10_hinders_2 : decode cX10_hinders 2 = .ok (.putfield 3, 3) := by decide +kernel
theorem dX10_hinders_5 : decode cX10_hinders 5 = .ok (.iload_n 1, 1) := by decide +kernel
theorem dX10_hinders_6 : decode cX10_hinders 6 = .ok (.i2l, 1) := by decide +kernel
theorem dX10_hinders_7 : decode cX10_hinders 7 = .ok (.lconst 0, 1) := by decide +kernel
theorem dX10_hinders_8 : decode cX10_hinders 8 = .ok (.ldc2_w 325, 3) := by decide +kernel
theorem dX10_hinders_11 : decode cX10_hinders 11 = .ok (.invokestatic 25, 3) := by decide +kernel
theorem dX10_hinders_14 : decode cX10_hinders 14 = .ok (.ifCond .ne 5, 3) := by decide +kernel
theorem dX10_hinders_17 : decode cX10_hinders 17 = .ok (.iconst (-1), 1) := by decide +kernel
theorem dX10_hinders_18 : decode cX10_hinders 18 = .ok (.ireturn, 1) := by decide +kernel
theorem dX10_hinders_19 : decode cX10_hinders 19 = .ok (.bipush (-2), 2) := by decide +kernel
theorem dX10_hinders_21 : decode cX10_hinders 21 = .ok (.istore_n 2, 1) := by decide +kernel
theorem dX10_hinders_22 : decode cX10_hinders 22 = .ok (.iconst (-1), 1) := by decide +kernel
theorem dX10_hinders_23 : decode cX10_hinders 23 = .ok (.istore_n 3, 1) := by decide +kernel
theorem dX10_hinders_24 : decode cX10_hinders 24 = .ok (.iconst 0, 1) := by decide +kernel
theorem dX10_hinders_25 : decode cX10_hinders 25 = .ok (.istore 4, 2) := by decide +kernel
theorem dX10_hinders_27 : decode cX10_hinders 27 = .ok (.iload 4, 2) := by decide +kernel
theorem dX10_hinders_29 : decode cX10_hinders 29 = .ok (.aload_n 0, 1) := by decide +kernel
theorem dX10_hinders_30 : decode cX10_hinders 30 = .ok (.getfield 29, 3) := by decide +kernel
theorem dX10_hinders_33 : decode cX10_hinders 33 = .ok (.if_icmp .ge 72, 3) := by decide +kernel
theorem dX10_hinders_36 : decode cX10_hinders 36 = .ok (.aload_n 0, 1) := by decide +kernel
theorem dX10_hinders_37 : decode cX10_hinders 37 = .ok (.getfield 79, 3) := by decide +kernel
theorem dX10_hinders_40 : decode cX10_hinders 40 = .ok (.bipush 30, 2) := by decide +kernel
theorem dX10_hinders_42 : decode cX10_hinders 42 = .ok (.iaload, 1) := by decide +kernel
theorem dX10_hinders_43 : decode cX10_hinders 43 = .ok (.iload 4, 2) := by decide +kernel
theorem dX10_hinders_45 : decode cX10_hinders 45 = .ok (.invokestatic 195, 3) := by decide +kernel
theorem dX10_hinders_48 : decode cX10_hinders 48 = .ok (.ifCond .eq 28, 3) := by decide +kernel
theorem dX10_hinders_51 : decode cX10_hinders 51 = .ok (.aload_n 0, 1) := by decide +kernel
theorem dX10_hinders_52 : decode cX10_hinders 52 = .ok (.aload_n 0, 1) := by decide +kernel
theorem dX10_hinders_53 : decode cX10_hinders 53 = .ok (.getfield 79, 3) := by decide +kernel
theorem dX10_hinders_56 : decode cX10_hinders 56 = .ok (.bipush 30, 2) := by decide +kernel
theorem dX10_hinders_58 : decode cX10_hinders 58 = .ok (.iaload, 1) := by decide +kernel
theorem dX10_hinders_59 : decode cX10_hinders 59 = .ok (.iconst 1, 1) := by decide +kernel
theorem dX10_hinders_60 : decode cX10_hinders 60 = .ok (.iload 4, 2) := by decide +kernel
theorem dX10_hinders_62 : decode cX10_hinders 62 = .ok (.ishl, 1) := by decide +kernel
theorem dX10_hinders_63 : decode cX10_hinders 63 = .ok (.iconst (-1), 1) := by decide +kernel
theorem dX10_hinders_64 : decode cX10_hinders 64 = .ok (.ixor, 1) := by decide +kernel
theorem dX10_hinders_65 : decode cX10_hinders 65 = .ok (.iand, 1) := by decide +kernel
theorem dX10_hinders_66 : decode cX10_hinders 66 = .ok (.iload_n 1, 1) := by decide +kernel
theorem dX10_hinders_67 : decode cX10_hinders 67 = .ok (.invokevirtual 327, 3) := by decide +kernel
theorem dX10_hinders_70 : decode cX10_hinders 70 = .ok (.invokestatic 175, 3) := by decide +kernel
theorem dX10_hinders_73 : decode cX10_hinders 73 = .ok (.goto 4, 3) := by decide +kernel
theorem dX10_hinders_76 : decode cX10_hinders 76 = .ok (.iconst (-1), 1) := by decide +kernel
theorem dX10_hinders_77 : decode cX10_hinders 77 = .ok (.istore 5, 2) := by decide +kernel
theorem dX10_hinders_79 : decode cX10_hinders 79 = .ok (.iload 5, 2) := by decide +kernel
theorem dX10_hinders_81 : decode cX10_hinders 81 = .ok (.iload_n 3, 1) := by decide +kernel
theorem dX10_hinders_82 : decode cX10_hinders 82 = .ok (.if_icmp .le 8, 3) := by decide +kernel
theorem dX10_hinders_85 : decode cX10_hinders 85 = .ok (.iload 4, 2) := by decide +kernel
theorem dX10_hinders_87 : decode cX10_hinders 87 = .ok (.goto 4, 3) := by decide +kernel
theorem dX10_hinders_90 : decode cX10_hinders 90 = .ok (.iload_n 2, 1) := by decide +kernel
theorem dX10_hinders_91 : decode cX10_hinders 91 = .ok (.istore_n 2, 1) := by decide +kernel
theorem dX10_hinders_92 : decode cX10_hinders 92 = .ok (.iload_n 3, 1) := by decide +kernel
theorem dX10_hinders_93 : decode cX10_hinders 93 = .ok (.iload 5, 2) := by decide +kernel
theorem dX10_hinders_95 : decode cX10_hinders 95 = .ok (.invokestatic 330, 3) := by decide +kernel
theorem dX10_hinders_98 : decode cX10_hinders 98 = .ok (.istore_n 3, 1) := by decide +kernel
theorem dX10_hinders_99 : decode cX10_hinders 99 = .ok (.iinc 4 1, 3) := by decide +kernel
theorem dX10_hinders_102 : decode cX10_hinders 102 = .ok (.goto (-75), 3) := by decide +kernel
theorem dX10_hinders_105 : decode cX10_hinders 105 = .ok (.iload_n 2, 1) := by decide +kernel
theorem dX10_hinders_106 : decode cX10_hinders 106 = .ok (.ifCond .ge 6, 3) := by decide +kernel
theorem dX10_hinders_109 : decode cX10_hinders 109 = .ok (.bipush (-2), 2) := by decide +kernel
theorem dX10_hinders_111 : decode cX10_hinders 111 = .ok (.ireturn, 1) := by decide +kernel
theorem dX10_hinders_112 : decode cX10_hinders 112 = .ok (.aload_n 0, 1) := by decide +kernel
theorem dX10_hinders_113 : decode cX10_hinders 113 = .ok (.iconst 0, 1) := by decide +kernel
theorem dX10_hinders_114 : decode cX10_hinders 114 = .ok (.putfield 15, 3) := by decide +kernel
theorem dX10_hinders_117 : decode cX10_hinders 117 = .ok (.aload_n 0, 1) := by decide +kernel
theorem dX10_hinders_118 : decode cX10_hinders 118 = .ok (.iload_n 3, 1) := by decide +kernel
theorem dX10_hinders_119 : decode cX10_hinders 119 = .ok (.i2l, 1) := by decide +kernel
theorem dX10_hinders_120 : decode cX10_hinders 120 = .ok (.invokevirtual 18, 3) := by decide +kernel
theorem dX10_hinders_123 : decode cX10_hinders 123 = .ok (.iload_n 2, 1) := by decide +kernel
theorem dX10_hinders_124 : decode cX10_hinders 124 = .ok (.ireturn, 1) := by decide +kernel
theorem dX10_packed_0 : decode cX10_packed 0 = .ok (.lconst 0, 1) := by decide +kernel
theorem dX10_packed_1 : decode cX10_packed 1 = .ok (.lstore_n 2, 1) := by decide +kernel
theorem dX10_packed_2 : decode cX10_packed 2 = .ok (.iconst 0, 1) := by decide +kernel
theorem dX10_packed_3 : decode cX10_packed 3 = .ok (.istore 4, 2) := by decide +kernel
theorem dX10_packed_5 : decode cX10_packed 5 = .ok (.iload 4, 2) := by decide +kernel
theorem dX10_packed_7 : decode cX10_packed 7 = .ok (.aload_n 0, 1) := by decide +kernel
theorem dX10_packed_8 : decode cX10_packed 8 = .ok (.getfield 29, 3) := by decide +kernel
theorem dX10_packed_11 : decode cX10_packed 11 = .ok (.if_icmp .ge 19, 3) := by decide +kernel
theorem dX10_packed_14 : decode cX10_packed 14 = .ok (.lload_n 2, 1) := by decide +kernel
theorem dX10_packed_15 : decode cX10_packed 15 = .ok (.iconst 4, 1) := by decide +kernel
theorem dX10_packed_16 : decode cX10_packed 16 = .ok (.lshl, 1) := by decide +kernel
theorem dX10_packed_17 : decode cX10_packed 17 = .ok (.aload_n 1, 1) := by decide +kernel
theorem dX10_packed_18 : decode cX10_packed 18 = .ok (.iload 4, 2) := by decide +kernel
theorem dX10_packed_20 : decode cX10_packed 20 = .ok (.iaload, 1) := by decide +kernel
theorem dX10_packed_21 : decode cX10_packed 21 = .ok (.i2l, 1) := by decide +kernel
theorem dX10_packed_22 : decode cX10_packed 22 = .ok (.lor, 1) := by decide +kernel
theorem dX10_packed_23 : decode cX10_packed 23 = .ok (.lstore_n 2, 1) := by decide +kernel
theorem dX10_packed_24 : decode cX10_packed 24 = .ok (.iinc 4 1, 3) := by decide +kernel
theorem dX10_packed_27 : decode cX10_packed 27 = .ok (.goto (-22), 3) := by decide +kernel
theorem dX10_packed_30 : decode cX10_packed 30 = .ok (.lload_n 2, 1) := by decide +kernel
theorem dX10_packed_31 : decode cX10_packed 31 = .ok (.iconst 4, 1) := by decide +kernel
theorem dX10_packed_32 : decode cX10_packed 32 = .ok (.lshl, 1) := by decide +kernel
theorem dX10_packed_33 : decode cX10_packed 33 = .ok (.aload_n 1, 1) := by decide +kernel
theorem dX10_packed_34 : decode cX10_packed 34 = .ok (.bipush 31, 2) := by decide +kernel
theorem dX10_packed_36 : decode cX10_packed 36 = .ok (.iaload, 1) := by decide +kernel
theorem dX10_packed_37 : decode cX10_packed 37 = .ok (.i2l, 1) := by decide +kernel
theorem dX10_packed_38 : decode cX10_packed 38 = .ok (.lor, 1) := by decide +kernel
theorem dX10_packed_39 : decode cX10_packed 39 = .ok (.iconst 3, 1) := by decide +kernel
theorem dX10_packed_40 : decode cX10_packed 40 = .ok (.lshl, 1) := by decide +kernel
theorem dX10_packed_41 : decode cX10_packed 41 = .ok (.aload_n 1, 1) := by decide +kernel
theorem dX10_packed_42 : decode cX10_packed 42 = .ok (.bipush 32, 2) := by decide +kernel
theorem dX10_packed_44 : decode cX10_packed 44 = .ok (.iaload, 1) := by decide +kernel
theorem dX10_packed_45 : decode cX10_packed 45 = .ok (.bipush 7, 2) := by decide +kernel
theorem dX10_packed_47 : decode cX10_packed 47 = .ok (.irem, 1) := by decide +kernel
theorem dX10_packed_48 : decode cX10_packed 48 = .ok (.i2l, 1) := by decide +kernel
theorem dX10_packed_49 : decode cX10_packed 49 = .ok (.lor, 1) := by decide +kernel
theorem dX10_packed_50 : decode cX10_packed 50 = .ok (.lreturn, 1) := by decide +kernel
theorem dX10_unpacks_0 : decode cX10_unpacks 0 = .ok (.aload_n 0, 1) := by decide +kernel
theorem dX10_unpacks_1 : decode cX10_unpacks 1 = .ok (.getfield 333, 3) := by decide +kernel
theorem dX10_unpacks_4 : decode cX10_unpacks 4 = .ok (.iload_n 1, 1) := by decide +kernel
theorem dX10_unpacks_5 : decode cX10_unpacks 5 = .ok (.laload, 1) := by decide +kernel
theorem dX10_unpacks_6 : decode cX10_unpacks 6 = .ok (.lstore_n 2, 1) := by decide +kernel
theorem dX10_unpacks_7 : decode cX10_unpacks 7 = .ok (.aload_n 0, 1) := by decide +kernel
theorem dX10_unpacks_8 : decode cX10_unpacks 8 = .ok (.getfield 313, 3) := by decide +kernel
theorem dX10_unpacks_11 : decode cX10_unpacks 11 = .ok (.bipush 32, 2) := by decide +kernel
theorem dX10_unpacks_13 : decode cX10_unpacks 13 = .ok (.lload_n 2, 1) := by decide +kernel
theorem dX10_unpacks_14 : decode cX10_unpacks 14 = .ok (.ldc2_w 336, 3) := by decide +kernel
theorem dX10_unpacks_17 : decode cX10_unpacks 17 = .ok (.land, 1) := by decide +kernel
theorem dX10_unpacks_18 : decode cX10_unpacks 18 = .ok (.l2i, 1) := by decide +kernel
theorem dX10_unpacks_19 : decode cX10_unpacks 19 = .ok (.iastore, 1) := by decide +kernel
theorem dX10_unpacks_20 : decode cX10_unpacks 20 = .ok (.aload_n 0, 1) := by decide +kernel
theorem dX10_unpacks_21 : decode cX10_unpacks 21 = .ok (.getfield 313, 3) := by decide +kernel
theorem dX10_unpacks_24 : decode cX10_unpacks 24 = .ok (.bipush 31, 2) := by decide +kernel
theorem dX10_unpacks_26 : decode cX10_unpacks 26 = .ok (.lload_n 2, 1) := by decide +kernel
theorem dX10_unpacks_27 : decode cX10_unpacks 27 = .ok (.iconst 3, 1) := by decide +kernel
theorem dX10_unpacks_28 : decode cX10_unpacks 28 = .ok (.lshr, 1) := by decide +kernel
theorem dX10_unpacks_29 : decode cX10_unpacks 29 = .ok (.ldc2_w 338, 3) := by decide +kernel
theorem dX10_unpacks_32 : decode cX10_unpacks 32 = .ok (.land, 1) := by decide +kernel
theorem dX10_unpacks_33 : decode cX10_unpacks 33 = .ok (.l2i, 1) := by decide +kernel
theorem dX10_unpacks_34 : decode cX10_unpacks 34 = .ok (.iastore, 1) := by decide +kernel
theorem dX10_unpacks_35 : decode cX10_unpacks 35 = .ok (.lload_n 2, 1) := by decide +kernel
theorem dX10_unpacks_36 : decode cX10_unpacks 36 = .ok (.bipush 7, 2) := by decide +kernel
theorem dX10_unpacks_38 : decode cX10_unpacks 38 = .ok (.lshr, 1) := by decide +kernel
theorem dX10_unpacks_39 : decode cX10_unpacks 39 = .ok (.lstore_n 2, 1) := by decide +kernel
theorem dX10_unpacks_40 : decode cX10_unpacks 40 = .ok (.aload_n 0, 1) := by decide +kernel
theorem dX10_unpacks_41 : decode cX10_unpacks 41 = .ok (.getfield 29, 3) := by decide +kernel
theorem dX10_unpacks_44 : decode cX10_unpacks 44 = .ok (.iconst 1, 1) := by decide +kernel
theorem dX10_unpacks_45 : decode cX10_unpacks 45 = .ok (.isub, 1) := by decide +kernel
theorem dX10_unpacks_46 : decode cX10_unpacks 46 = .ok (.istore 4, 2) := by decide +kernel
theorem dX10_unpacks_48 : decode cX10_unpacks 48 = .ok (.iload 4, 2) := by decide +kernel
theorem dX10_unpacks_50 : decode cX10_unpacks 50 = .ok (.ifCond .lt 26, 3) := by decide +kernel
theorem dX10_unpacks_53 : decode cX10_unpacks 53 = .ok (.aload_n 0, 1) := by decide +kernel
theorem dX10_unpacks_54 : decode cX10_unpacks 54 = .ok (.getfield 313, 3) := by decide +kernel
theorem dX10_unpacks_57 : decode cX10_unpacks 57 = .ok (.iload 4, 2) := by decide +kernel
theorem dX10_unpacks_59 : decode cX10_unpacks 59 = .ok (.lload_n 2, 1) := by decide +kernel
theorem dX10_unpacks_60 : decode cX10_unpacks 60 = .ok (.ldc2_w 338, 3) := by decide +kernel
theorem dX10_unpacks_63 : decode cX10_unpacks 63 = .ok (.land, 1) := by decide +kernel
theorem dX10_unpacks_64 : decode cX10_unpacks 64 = .ok (.l2i, 1) := by decide +kernel
theorem dX10_unpacks_65 : decode cX10_unpacks 65 = .ok (.iastore, 1) := by decide +kernel
theorem dX10_unpacks_66 : decode cX10_unpacks 66 = .ok (.lload_n 2, 1) := by decide +kernel
theorem dX10_unpacks_67 : decode cX10_unpacks 67 = .ok (.iconst 4, 1) := by decide +kernel
theorem dX10_unpacks_68 : decode cX10_unpacks 68 = .ok (.lshr, 1) := by decide +kernel
theorem dX10_unpacks_69 : decode cX10_unpacks 69 = .ok (.lstore_n 2, 1) := by decide +kernel
theorem dX10_unpacks_70 : decode cX10_unpacks 70 = .ok (.iinc 4 (-1), 3) := by decide +kernel
theorem dX10_unpacks_73 : decode cX10_unpacks 73 = .ok (.goto (-25), 3) := by decide +kernel
theorem dX10_unpacks_76 : decode cX10_unpacks 76 = .ok (.aload_n 0, 1) := by decide +kernel
theorem dX10_unpacks_77 : decode cX10_unpacks 77 = .ok (.getfield 313, 3) := by decide +kernel
theorem dX10_unpacks_80 : decode cX10_unpacks 80 = .ok (.bipush 30, 2) := by decide +kernel
theorem dX10_unpacks_82 : decode cX10_unpacks 82 = .ok (.iconst 0, 1) := by decide +kernel
theorem dX10_unpacks_83 : decode cX10_unpacks 83 = .ok (.iastore, 1) := by decide +kernel
theorem dX10_unpacks_84 : decode cX10_unpacks 84 = .ok (.return_, 1) := by decide +kernel
theorem dX10_slotOf_0 : decode cX10_slotOf 0 = .ok (.lload_n 1, 1) := by decide +kernel
theorem dX10_slotOf_1 : decode cX10_slotOf 1 = .ok (.lload_n 1, 1) := by decide +kernel
theorem dX10_slotOf_2 : decode cX10_slotOf 2 = .ok (.bipush 23, 2) := by decide +kernel
theorem dX10_slotOf_4 : decode cX10_slotOf 4 = .ok (.lushr, 1) := by decide +kernel
theorem dX10_slotOf_5 : decode cX10_slotOf 5 = .ok (.lxor, 1) := by decide +kernel
theorem dX10_slotOf_6 : decode cX10_slotOf 6 = .ok (.ldc2_w 340, 3) := by decide +kernel
theorem dX10_slotOf_9 : decode cX10_slotOf 9 = .ok (.lmul, 1) := by decide +kernel
theorem dX10_slotOf_10 : decode cX10_slotOf 10 = .ok (.ldc2_w 344, 3) := by decide +kernel
theorem dX10_slotOf_13 : decode cX10_slotOf 13 = .ok (.land, 1) := by decide +kernel
theorem dX10_slotOf_14 : decode cX10_slotOf 14 = .ok (.ldc2_w 346, 3) := by decide +kernel
theorem dX10_slotOf_17 : decode cX10_slotOf 17 = .ok (.lrem, 1) := by decide +kernel
theorem dX10_slotOf_18 : decode cX10_slotOf 18 = .ok (.l2i, 1) := by decide +kernel
theorem dX10_slotOf_19 : decode cX10_slotOf 19 = .ok (.istore_n 3, 1) := by decide +kernel
theorem dX10_slotOf_20 : decode cX10_slotOf 20 = .ok (.aload_n 0, 1) := by decide +kernel
theorem dX10_slotOf_21 : decode cX10_slotOf 21 = .ok (.getfield 348, 3) := by decide +kernel
theorem dX10_slotOf_24 : decode cX10_slotOf 24 = .ok (.iload_n 3, 1) := by decide +kernel
theorem dX10_slotOf_25 : decode cX10_slotOf 25 = .ok (.iaload, 1) := by decide +kernel
theorem dX10_slotOf_26 : decode cX10_slotOf 26 = .ok (.ifCond .lt 30, 3) := by decide +kernel
theorem dX10_slotOf_29 : decode cX10_slotOf 29 = .ok (.aload_n 0, 1) := by decide +kernel
theorem dX10_slotOf_30 : decode cX10_slotOf 30 = .ok (.getfield 333, 3) := by decide +kernel
theorem dX10_slotOf_33 : decode cX10_slotOf 33 = .ok (.aload_n 0, 1) := by decide +kernel
theorem dX10_slotOf_34 : decode cX10_slotOf 34 = .ok (.getfield 348, 3) := by decide +kernel
theorem dX10_slotOf_37 : decode cX10_slotOf 37 = .ok (.iload_n 3, 1) := by decide +kernel
theorem dX10_slotOf_38 : decode cX10_slotOf 38 = .ok (.iaload, 1) := by decide +kernel
theorem dX10_slotOf_39 : decode cX10_slotOf 39 = .ok (.laload, 1) := by decide +kernel
theorem dX10_slotOf_40 : decode cX10_slotOf 40 = .ok (.lload_n 1, 1) := by decide +kernel
theorem dX10_slotOf_41 : decode cX10_slotOf 41 = .ok (.lcmp, 1) := by decide +kernel
theorem dX10_slotOf_42 : decode cX10_slotOf 42 = .ok (.ifCond .eq 14, 3) := by decide +kernel
theorem dX10_slotOf_45 : decode cX10_slotOf 45 = .ok (.iload_n 3, 1) := by decide +kernel
theorem dX10_slotOf_46 : decode cX10_slotOf 46 = .ok (.iconst 1, 1) := by decide +kernel
theorem dX10_slotOf_47 : decode cX10_slotOf 47 = .ok (.iadd, 1) := by decide +kernel
theorem dX10_slotOf_48 : decode cX10_slotOf 48 = .ok (.sipush 16384, 3) := by decide +kernel
theorem dX10_slotOf_51 : decode cX10_slotOf 51 = .ok (.irem, 1) := by decide +kernel
theorem dX10_slotOf_52 : decode cX10_slotOf 52 = .ok (.istore_n 3, 1) := by decide +kernel
theorem dX10_slotOf_53 : decode cX10_slotOf 53 = .ok (.goto (-33), 3) := by decide +kernel
theorem dX10_slotOf_56 : decode cX10_slotOf 56 = .ok (.iload_n 3, 1) := by decide +kernel
theorem dX10_slotOf_57 : decode cX10_slotOf 57 = .ok (.ireturn, 1) := by decide +kernel
theorem dX10_finds_0 : decode cX10_finds 0 = .ok (.aload_n 0, 1) := by decide +kernel
theorem dX10_finds_1 : decode cX10_finds 1 = .ok (.aload_n 0, 1) := by decide +kernel
theorem dX10_finds_2 : decode cX10_finds 2 = .ok (.getfield 313, 3) := by decide +kernel
theorem dX10_finds_5 : decode cX10_finds 5 = .ok (.invokevirtual 351, 3) := by decide +kernel
theorem dX10_finds_8 : decode cX10_finds 8 = .ok (.lstore_n 3, 1) := by decide +kernel
theorem dX10_finds_9 : decode cX10_finds 9 = .ok (.aload_n 0, 1) := by decide +kernel
theorem dX10_finds_10 : decode cX10_finds 10 = .ok (.lload_n 3, 1) := by decide +kernel
theorem dX10_finds_11 : decode cX10_finds 11 = .ok (.invokevirtual 355, 3) := by decide +kernel
theorem dX10_finds_14 : decode cX10_finds 14 = .ok (.istore 5, 2) := by decide +kernel
theorem dX10_finds_16 : decode cX10_finds 16 = .ok (.aload_n 0, 1) := by decide +kernel
theorem dX10_finds_17 : decode cX10_finds 17 = .ok (.getfield 348, 3) := by decide +kernel
theorem dX10_finds_20 : decode cX10_finds 20 = .ok (.iload 5, 2) := by decide +kernel
theorem dX10_finds_22 : decode cX10_finds 22 = .ok (.iaload, 1) := by decide +kernel
theorem dX10_finds_23 : decode cX10_finds 23 = .ok (.ifCond .lt 4, 3) := by decide +kernel
theorem dX10_finds_26 : decode cX10_finds 26 = .ok (.return_, 1) := by decide +kernel
theorem dX10_finds_27 : decode cX10_finds 27 = .ok (.aload_n 0, 1) := by decide +kernel
theorem dX10_finds_28 : decode cX10_finds 28 = .ok (.getfield 359, 3) := by decide +kernel
theorem dX10_finds_31 : decode cX10_finds 31 = .ok (.sipush 3000, 3) := by decide +kernel
theorem dX10_finds_34 : decode cX10_finds 34 = .ok (.if_icmp .ne 9, 3) := by decide +kernel
theorem dX10_finds_37 : decode cX10_finds 37 = .ok (.aload_n 0, 1) := by decide +kernel
theorem dX10_finds_38 : decode cX10_finds 38 = .ok (.iconst 1, 1) := by decide +kernel
theorem dX10_finds_39 : decode cX10_finds 39 = .ok (.putfield 362, 3) := by decide +kernel
theorem dX10_finds_42 : decode cX10_finds 42 = .ok (.return_, 1) := by decide +kernel
theorem dX10_finds_43 : decode cX10_finds 43 = .ok (.aload_n 0, 1) := by decide +kernel
theorem dX10_finds_44 : decode cX10_finds 44 = .ok (.getfield 333, 3) := by decide +kernel
theorem dX10_finds_47 : decode cX10_finds 47 = .ok (.aload_n 0, 1) := by decide +kernel
theorem dX10_finds_48 : decode cX10_finds 48 = .ok (.getfield 359, 3) := by decide +kernel
theorem dX10_finds_51 : decode cX10_finds 51 = .ok (.lload_n 3, 1) := by decide +kernel
theorem dX10_finds_52 : decode cX10_finds 52 = .ok (.lastore, 1) := by decide +kernel
theorem dX10_finds_53 : decode cX10_finds 53 = .ok (.aload_n 0, 1) := by decide +kernel
theorem dX10_finds_54 : decode cX10_finds 54 = .ok (.getfield 366, 3) := by decide +kernel
theorem dX10_finds_57 : decode cX10_finds 57 = .ok (.aload_n 0, 1) := by decide +kernel
theorem dX10_finds_58 : decode cX10_finds 58 = .ok (.getfield 359, 3) := by decide +kernel
theorem dX10_finds_61 : decode cX10_finds 61 = .ok (.iload_n 1, 1) := by decide +kernel
theorem dX10_finds_62 : decode cX10_finds 62 = .ok (.iastore, 1) := by decide +kernel
theorem dX10_finds_63 : decode cX10_finds 63 = .ok (.aload_n 0, 1) := by decide +kernel
theorem dX10_finds_64 : decode cX10_finds 64 = .ok (.getfield 369, 3) := by decide +kernel
theorem dX10_finds_67 : decode cX10_finds 67 = .ok (.aload_n 0, 1) := by decide +kernel
theorem dX10_finds_68 : decode cX10_finds 68 = .ok (.getfield 359, 3) := by decide +kernel
theorem dX10_finds_71 : decode cX10_finds 71 = .ok (.iload_n 2, 1) := by decide +kernel
theorem dX10_finds_72 : decode cX10_finds 72 = .ok (.iastore, 1) := by decide +kernel
theorem dX10_finds_73 : decode cX10_finds 73 = .ok (.aload_n 0, 1) := by decide +kernel
theorem dX10_finds_74 : decode cX10_finds 74 = .ok (.getfield 372, 3) := by decide +kernel
theorem dX10_finds_77 : decode cX10_finds 77 = .ok (.aload_n 0, 1) := by decide +kernel
theorem dX10_finds_78 : decode cX10_finds 78 = .ok (.getfield 359, 3) := by decide +kernel
theorem dX10_finds_81 : decode cX10_finds 81 = .ok (.iload_n 1, 1) := by decide +kernel
theorem dX10_finds_82 : decode cX10_finds 82 = .ok (.ifCond .ge 7, 3) := by decide +kernel
theorem dX10_finds_85 : decode cX10_finds 85 = .ok (.iconst 0, 1) := by decide +kernel
theorem dX10_finds_86 : decode cX10_finds 86 = .ok (.goto 11, 3) := by decide +kernel
theorem dX10_finds_89 : decode cX10_finds 89 = .ok (.aload_n 0, 1) := by decide +kernel
theorem dX10_finds_90 : decode cX10_finds 90 = .ok (.getfield 372, 3) := by decide +kernel
theorem dX10_finds_93 : decode cX10_finds 93 = .ok (.iload_n 1, 1) := by decide +kernel
theorem dX10_finds_94 : decode cX10_finds 94 = .ok (.iaload, 1) := by decide +kernel
theorem dX10_finds_95 : decode cX10_finds 95 = .ok (.iconst 1, 1) := by decide +kernel
theorem dX10_finds_96 : decode cX10_finds 96 = .ok (.iadd, 1) := by decide +kernel
theorem dX10_finds_97 : decode cX10_finds 97 = .ok (.iastore, 1) := by decide +kernel
theorem dX10_finds_98 : decode cX10_finds 98 = .ok (.aload_n 0, 1) := by decide +kernel
theorem dX10_finds_99 : decode cX10_finds 99 = .ok (.getfield 348, 3) := by decide +kernel
theorem dX10_finds_102 : decode cX10_finds 102 = .ok (.iload 5, 2) := by decide +kernel
theorem dX10_finds_104 : decode cX10_finds 104 = .ok (.aload_n 0, 1) := by decide +kernel
theorem dX10_finds_105 : decode cX10_finds 105 = .ok (.getfield 359, 3) := by decide +kernel
theorem dX10_finds_108 : decode cX10_finds 108 = .ok (.iastore, 1) := by decide +kernel
theorem dX10_finds_109 : decode cX10_finds 109 = .ok (.aload_n 0, 1) := by decide +kernel
theorem dX10_finds_110 : decode cX10_finds 110 = .ok (.dup, 1) := by decide +kernel
theorem dX10_finds_111 : decode cX10_finds 111 = .ok (.getfield 359, 3) := by decide +kernel
theorem dX10_finds_114 : decode cX10_finds 114 = .ok (.iconst 1, 1) := by decide +kernel
theorem dX10_finds_115 : decode cX10_finds 115 = .ok (.iadd, 1) := by decide +kernel
theorem dX10_finds_116 : decode cX10_finds 116 = .ok (.putfield 359, 3) := by decide +kernel
theorem dX10_finds_119 : decode cX10_finds 119 = .ok (.return_, 1) := by decide +kernel
theorem dX10_findsFirst_0 : decode cX10_findsFirst 0 = .ok (.iconst 0, 1) := by decide +kernel
theorem dX10_findsFirst_1 : decode cX10_findsFirst 1 = .ok (.istore_n 1, 1) := by decide +kernel
theorem dX10_findsFirst_2 : decode cX10_findsFirst 2 = .ok (.iload_n 1, 1) := by decide +kernel
theorem dX10_findsFirst_3 : decode cX10_findsFirst 3 = .ok (.sipush 16384, 3) := by decide +kernel
theorem dX10_findsFirst_6 : decode cX10_findsFirst 6 = .ok (.if_icmp .ge 16, 3) := by decide +kernel
theorem dX10_findsFirst_9 : decode cX10_findsFirst 9 = .ok (.aload_n 0, 1) := by decide +kernel
theorem dX10_findsFirst_10 : decode cX10_findsFirst 10 = .ok (.getfield 348, 3) := by decide +kernel
theorem dX10_findsFirst_13 : decode cX10_findsFirst 13 = .ok (.iload_n 1, 1) := by decide +kernel
theorem dX10_findsFirst_14 : decode cX10_findsFirst 14 = .ok (.iconst (-1), 1) := by decide +kernel
theorem dX10_findsFirst_15 : decode cX10_findsFirst 15 = .ok (.iastore, 1) := by decide +kernel
theorem dX10_findsFirst_16 : decode cX10_findsFirst 16 = .ok (.iinc 1 1, 3) := by decide +kernel
theorem dX10_findsFirst_19 : decode cX10_findsFirst 19 = .ok (.goto (-17), 3) := by decide +kernel
theorem dX10_findsFirst_22 : decode cX10_findsFirst 22 = .ok (.aload_n 0, 1) := by decide +kernel
theorem dX10_findsFirst_23 : decode cX10_findsFirst 23 = .ok (.iconst 0, 1) := by decide +kernel
theorem dX10_findsFirst_24 : decode cX10_findsFirst 24 = .ok (.putfield 359, 3) := by decide +kernel
theorem dX10_findsFirst_27 : decode cX10_findsFirst 27 = .ok (.aload_n 0, 1) := by decide +kernel
theorem dX10_findsFirst_28 : decode cX10_findsFirst 28 = .ok (.iconst 0, 1) := by decide +kernel
theorem dX10_findsFirst_29 : decode cX10_findsFirst 29 = .ok (.putfield 362, 3) := by decide +kernel
theorem dX10_findsFirst_32 : decode cX10_findsFirst 32 = .ok (.aload_n 0, 1) := by decide +kernel
theorem dX10_findsFirst_33 : decode cX10_findsFirst 33 = .ok (.getfield 79, 3) := by decide +kernel
theorem dX10_findsFirst_36 : decode cX10_findsFirst 36 = .ok (.aload_n 0, 1) := by decide +kernel
theorem dX10_findsFirst_37 : decode cX10_findsFirst 37 = .ok (.getfield 313, 3) := by decide +kernel
theorem dX10_findsFirst_40 : decode cX10_findsFirst 40 = .ok (.invokestatic 316, 3) := by decide +kernel
theorem dX10_findsFirst_43 : decode cX10_findsFirst 43 = .ok (.aload_n 0, 1) := by decide +kernel
theorem dX10_findsFirst_44 : decode cX10_findsFirst 44 = .ok (.iconst (-1), 1) := by decide +kernel
theorem dX10_findsFirst_45 : decode cX10_findsFirst 45 = .ok (.iconst 0, 1) := by decide +kernel
theorem dX10_findsFirst_46 : decode cX10_findsFirst 46 = .ok (.invokevirtual 375, 3) := by decide +kernel
theorem dX10_findsFirst_49 : decode cX10_findsFirst 49 = .ok (.return_, 1) := by decide +kernel
theorem dX10_findsFrom_0 : decode cX10_findsFrom 0 = .ok (.aload_n 0, 1) := by decide +kernel
theorem dX10_findsFrom_1 : decode cX10_findsFrom 1 = .ok (.iload_n 1, 1) := by decide +kernel
theorem dX10_findsFrom_2 : decode cX10_findsFrom 2 = .ok (.invokevirtual 379, 3) := by decide +kernel
theorem dX10_findsFrom_5 : decode cX10_findsFrom 5 = .ok (.aload_n 0, 1) := by decide +kernel
theorem dX10_findsFrom_6 : decode cX10_findsFrom 6 = .ok (.aload_n 0, 1) := by decide +kernel
theorem dX10_findsFrom_7 : decode cX10_findsFrom 7 = .ok (.getfield 313, 3) := by decide +kernel
theorem dX10_findsFrom_10 : decode cX10_findsFrom 10 = .ok (.invokevirtual 295, 3) := by decide +kernel
theorem dX10_findsFrom_13 : decode cX10_findsFrom 13 = .ok (.istore_n 2, 1) := by decide +kernel
theorem dX10_findsFrom_14 : decode cX10_findsFrom 14 = .ok (.iconst 0, 1) := by decide +kernel
theorem dX10_findsFrom_15 : decode cX10_findsFrom 15 = .ok (.istore_n 3, 1) := by decide +kernel
theorem dX10_findsFrom_16 : decode cX10_findsFrom 16 = .ok (.iload_n 3, 1) := by decide +kernel
theorem dX10_findsFrom_17 : decode cX10_findsFrom 17 = .ok (.iconst 1, 1) := by decide +kernel
theorem dX10_findsFrom_18 : decode cX10_findsFrom 18 = .ok (.aload_n 0, 1) := by decide +kernel
theorem dX10_findsFrom_19 : decode cX10_findsFrom 19 = .ok (.getfield 29, 3) := by decide +kernel
theorem dX10_findsFrom_22 : decode cX10_findsFrom 22 = .ok (.ishl, 1) := by decide +kernel
theorem dX10_findsFrom_23 : decode cX10_findsFrom 23 = .ok (.if_icmp .ge 45, 3) := by decide +kernel
theorem dX10_findsFrom_26 : decode cX10_findsFrom 26 = .ok (.aload_n 0, 1) := by decide +kernel
theorem dX10_findsFrom_27 : decode cX10_findsFrom 27 = .ok (.getfield 362, 3) := by decide +kernel
theorem dX10_findsFrom_30 : decode cX10_findsFrom 30 = .ok (.ifCond .ne 38, 3) := by decide +kernel
theorem dX10_findsFrom_33 : decode cX10_findsFrom 33 = .ok (.iload_n 3, 1) := by decide +kernel
theorem dX10_findsFrom_34 : decode cX10_findsFrom 34 = .ok (.iload_n 2, 1) := by decide +kernel
theorem dX10_findsFrom_35 : decode cX10_findsFrom 35 = .ok (.iconst (-1), 1) := by decide +kernel
theorem dX10_findsFrom_36 : decode cX10_findsFrom 36 = .ok (.ixor, 1) := by decide +kernel
theorem dX10_findsFrom_37 : decode cX10_findsFrom 37 = .ok (.iand, 1) := by decide +kernel
theorem dX10_findsFrom_38 : decode cX10_findsFrom 38 = .ok (.ifCond .ne 24, 3) := by decide +kernel
theorem dX10_findsFrom_41 : decode cX10_findsFrom 41 = .ok (.aload_n 0, 1) := by decide +kernel
theorem dX10_findsFrom_42 : decode cX10_findsFrom 42 = .ok (.iload_n 1, 1) := by decide +kernel
theorem dX10_findsFrom_43 : decode cX10_findsFrom 43 = .ok (.invokevirtual 379, 3) := by decide +kernel
theorem dX10_findsFrom_46 : decode cX10_findsFrom 46 = .ok (.aload_n 0, 1) := by decide +kernel
theorem dX10_findsFrom_47 : decode cX10_findsFrom 47 = .ok (.aload_n 0, 1) := by decide +kernel
theorem dX10_findsFrom_48 : decode cX10_findsFrom 48 = .ok (.getfield 313, 3) := by decide +kernel
theorem dX10_findsFrom_51 : decode cX10_findsFrom 51 = .ok (.iload_n 3, 1) := by decide +kernel
theorem dX10_findsFrom_52 : decode cX10_findsFrom 52 = .ok (.invokevirtual 261, 3) := by decide +kernel
theorem dX10_findsFrom_55 : decode cX10_findsFrom 55 = .ok (.pop, 1) := by decide +kernel
theorem dX10_findsFrom_56 : decode cX10_findsFrom 56 = .ok (.aload_n 0, 1) := by decide +kernel
theorem dX10_findsFrom_57 : decode cX10_findsFrom 57 = .ok (.iload_n 1, 1) := by decide +kernel
theorem dX10_findsFrom_58 : decode cX10_findsFrom 58 = .ok (.iload_n 3, 1) := by decide +kernel
theorem dX10_findsFrom_59 : decode cX10_findsFrom 59 = .ok (.invokevirtual 375, 3) := by decide +kernel
theorem dX10_findsFrom_62 : decode cX10_findsFrom 62 = .ok (.iinc 3 1, 3) := by decide +kernel
theorem dX10_findsFrom_65 : decode cX10_findsFrom 65 = .ok (.goto (-49), 3) := by decide +kernel
theorem dX10_findsFrom_68 : decode cX10_findsFrom 68 = .ok (.return_, 1) := by decide +kernel
theorem dX10_isAim_0 : decode cX10_isAim 0 = .ok (.aload_n 0, 1) := by decide +kernel
theorem dX10_isAim_1 : decode cX10_isAim 1 = .ok (.iload_n 1, 1) := by decide +kernel
theorem dX10_isAim_2 : decode cX10_isAim 2 = .ok (.invokevirtual 379, 3) := by decide +kernel
theorem dX10_isAim_5 : decode cX10_isAim 5 = .ok (.aload_n 0, 1) := by decide +kernel
theorem dX10_isAim_6 : decode cX10_isAim 6 = .ok (.getfield 382, 3) := by decide +kernel
theorem dX10_isAim_9 : decode cX10_isAim 9 = .ok (.iconst 2, 1) := by decide +kernel
theorem dX10_isAim_10 : decode cX10_isAim 10 = .ok (.if_icmp .ne 38, 3) := by decide +kernel
theorem dX10_isAim_13 : decode cX10_isAim 13 = .ok (.aload_n 0, 1) := by decide +kernel
theorem dX10_isAim_14 : decode cX10_isAim 14 = .ok (.getfield 313, 3) := by decide +kernel
theorem dX10_isAim_17 : decode cX10_isAim 17 = .ok (.bipush 31, 2) := by decide +kernel
theorem dX10_isAim_19 : decode cX10_isAim 19 = .ok (.iaload, 1) := by decide +kernel
theorem dX10_isAim_20 : decode cX10_isAim 20 = .ok (.aload_n 0, 1) := by decide +kernel
theorem dX10_isAim_21 : decode cX10_isAim 21 = .ok (.getfield 385, 3) := by decide +kernel
theorem dX10_isAim_24 : decode cX10_isAim 24 = .ok (.if_icmp .ne 22, 3) := by decide +kernel
theorem dX10_isAim_27 : decode cX10_isAim 27 = .ok (.aload_n 0, 1) := by decide +kernel
theorem dX10_isAim_28 : decode cX10_isAim 28 = .ok (.aload_n 0, 1) := by decide +kernel
theorem dX10_isAim_29 : decode cX10_isAim 29 = .ok (.getfield 313, 3) := by decide +kernel
theorem dX10_isAim_32 : decode cX10_isAim 32 = .ok (.invokevirtual 295, 3) := by decide +kernel
theorem dX10_isAim_35 : decode cX10_isAim 35 = .ok (.aload_n 0, 1) := by decide +kernel
theorem dX10_isAim_36 : decode cX10_isAim 36 = .ok (.getfield 388, 3) := by decide +kernel
theorem dX10_isAim_39 : decode cX10_isAim 39 = .ok (.if_icmp .ne 7, 3) := by decide +kernel
theorem dX10_isAim_42 : decode cX10_isAim 42 = .ok (.iconst 1, 1) := by decide +kernel
theorem dX10_isAim_43 : decode cX10_isAim 43 = .ok (.goto 4, 3) := by decide +kernel
theorem dX10_isAim_46 : decode cX10_isAim 46 = .ok (.iconst 0, 1) := by decide +kernel
theorem dX10_isAim_47 : decode cX10_isAim 47 = .ok (.ireturn, 1) := by decide +kernel
theorem dX10_isAim_48 : decode cX10_isAim 48 = .ok (.aload_n 0, 1) := by decide +kernel
theorem dX10_isAim_49 : decode cX10_isAim 49 = .ok (.getfield 382, 3) := by decide +kernel
theorem dX10_isAim_52 : decode cX10_isAim 52 = .ok (.ifCond .ne 30, 3) := by decide +kernel
theorem dX10_isAim_55 : decode cX10_isAim 55 = .ok (.aload_n 0, 1) := by decide +kernel
theorem dX10_isAim_56 : decode cX10_isAim 56 = .ok (.aload_n 0, 1) := by decide +kernel
theorem dX10_isAim_57 : decode cX10_isAim 57 = .ok (.getfield 313, 3) := by decide +kernel
theorem dX10_isAim_60 : decode cX10_isAim 60 = .ok (.invokevirtual 391, 3) := by decide +kernel
theorem dX10_isAim_63 : decode cX10_isAim 63 = .ok (.iconst 1, 1) := by decide +kernel
theorem dX10_isAim_64 : decode cX10_isAim 64 = .ok (.aload_n 0, 1) := by decide +kernel
theorem dX10_isAim_65 : decode cX10_isAim 65 = .ok (.getfield 29, 3) := by decide +kernel
theorem dX10_isAim_68 : decode cX10_isAim 68 = .ok (.ishl, 1) := by decide +kernel
theorem dX10_isAim_69 : decode cX10_isAim 69 = .ok (.iconst 1, 1) := by decide +kernel
theorem dX10_isAim_70 : decode cX10_isAim 70 = .ok (.isub, 1) := by decide +kernel
theorem dX10_isAim_71 : decode cX10_isAim 71 = .ok (.if_icmp .ne 7, 3) := by decide +kernel
theorem dX10_isAim_74 : decode cX10_isAim 74 = .ok (.iconst 1, 1) := by decide +kernel
theorem dX10_isAim_75 : decode cX10_isAim 75 = .ok (.goto 26, 3) := by decide +kernel
theorem dX10_isAim_78 : decode cX10_isAim 78 = .ok (.iconst 0, 1) := by decide +kernel
theorem dX10_isAim_79 : decode cX10_isAim 79 = .ok (.goto 22, 3) := by decide +kernel
theorem dX10_isAim_82 : decode cX10_isAim 82 = .ok (.aload_n 0, 1) := by decide +kernel
theorem dX10_isAim_83 : decode cX10_isAim 83 = .ok (.getfield 313, 3) := by decide +kernel
theorem dX10_isAim_86 : decode cX10_isAim 86 = .ok (.aload_n 0, 1) := by decide +kernel
theorem dX10_isAim_87 : decode cX10_isAim 87 = .ok (.getfield 388, 3) := by decide +kernel
theorem dX10_isAim_90 : decode cX10_isAim 90 = .ok (.iaload, 1) := by decide +kernel
theorem dX10_isAim_91 : decode cX10_isAim 91 = .ok (.bipush 9, 2) := by decide +kernel
theorem dX10_isAim_93 : decode cX10_isAim 93 = .ok (.if_icmp .ne 7, 3) := by decide +kernel
theorem dX10_isAim_96 : decode cX10_isAim 96 = .ok (.iconst 1, 1) := by decide +kernel
theorem dX10_isAim_97 : decode cX10_isAim 97 = .ok (.goto 4, 3) := by decide +kernel
theorem dX10_isAim_100 : decode cX10_isAim 100 = .ok (.iconst 0, 1) := by decide +kernel
theorem dX10_isAim_101 : decode cX10_isAim 101 = .ok (.ireturn, 1) := by decide +kernel
theorem dX10_seeks_0 : decode cX10_seeks 0 = .ok (.aload_n 0, 1) := by decide +kernel
theorem dX10_seeks_1 : decode cX10_seeks 1 = .ok (.invokevirtual 322, 3) := by decide +kernel
theorem dX10_seeks_4 : decode cX10_seeks 4 = .ok (.ifCond .eq 6, 3) := by decide +kernel
theorem dX10_seeks_7 : decode cX10_seeks 7 = .ok (.bipush (-4), 2) := by decide +kernel
theorem dX10_seeks_9 : decode cX10_seeks 9 = .ok (.ireturn, 1) := by decide +kernel
theorem dX10_seeks_10 : decode cX10_seeks 10 = .ok (.aload_n 0, 1) := by decide +kernel
theorem dX10_seeks_11 : decode cX10_seeks 11 = .ok (.iload_n 1, 1) := by decide +kernel
theorem dX10_seeks_12 : decode cX10_seeks 12 = .ok (.putfield 382, 3) := by decide +kernel
theorem dX10_seeks_15 : decode cX10_seeks 15 = .ok (.aload_n 0, 1) := by decide +kernel
theorem dX10_seeks_16 : decode cX10_seeks 16 = .ok (.invokevirtual 394, 3) := by decide +kernel
theorem dX10_seeks_19 : decode cX10_seeks 19 = .ok (.iconst 0, 1) := by decide +kernel
theorem dX10_seeks_20 : decode cX10_seeks 20 = .ok (.istore_n 2, 1) := by decide +kernel
theorem dX10_seeks_21 : decode cX10_seeks 21 = .ok (.iconst 0, 1) := by decide +kernel
theorem dX10_seeks_22 : decode cX10_seeks 22 = .ok (.istore_n 3, 1) := by decide +kernel
theorem dX10_seeks_23 : decode cX10_seeks 23 = .ok (.iload_n 3, 1) := by decide +kernel
theorem dX10_seeks_24 : decode cX10_seeks 24 = .ok (.aload_n 0, 1) := by decide +kernel
theorem dX10_seeks_25 : decode cX10_seeks 25 = .ok (.getfield 359, 3) := by decide +kernel
theorem dX10_seeks_28 : decode cX10_seeks 28 = .ok (.if_icmp .ge 45, 3) := by decide +kernel
theorem dX10_seeks_31 : decode cX10_seeks 31 = .ok (.iload_n 2, 1) := by decide +kernel
theorem dX10_seeks_32 : decode cX10_seeks 32 = .ok (.aload_n 0, 1) := by decide +kernel
theorem dX10_seeks_33 : decode cX10_seeks 33 = .ok (.getfield 359, 3) := by decide +kernel
theorem dX10_seeks_36 : decode cX10_seeks 36 = .ok (.if_icmp .ge 19, 3) := by decide +kernel
theorem dX10_seeks_39 : decode cX10_seeks 39 = .ok (.aload_n 0, 1) := by decide +kernel
theorem dX10_seeks_40 : decode cX10_seeks 40 = .ok (.iload_n 2, 1) := by decide +kernel
theorem dX10_seeks_41 : decode cX10_seeks 41 = .ok (.invokevirtual 397, 3) := by decide +kernel
theorem dX10_seeks_44 : decode cX10_seeks 44 = .ok (.ifCond .eq 5, 3) := by decide +kernel
theorem dX10_seeks_47 : decode cX10_seeks 47 = .ok (.iload_n 2, 1) := by decide +kernel
theorem dX10_seeks_48 : decode cX10_seeks 48 = .ok (.ireturn, 1) := by decide +kernel
theorem dX10_seeks_49 : decode cX10_seeks 49 = .ok (.iinc 2 1, 3) := by decide +kernel
theorem dX10_seeks_52 : decode cX10_seeks 52 = .ok (.goto (-21), 3) := by decide +kernel
theorem dX10_seeks_55 : decode cX10_seeks 55 = .ok (.aload_n 0, 1) := by decide +kernel
theorem dX10_seeks_56 : decode cX10_seeks 56 = .ok (.getfield 362, 3) := by decide +kernel
theorem dX10_seeks_59 : decode cX10_seeks 59 = .ok (.ifCond .ne 8, 3) := by decide +kernel
theorem dX10_seeks_62 : decode cX10_seeks 62 = .ok (.aload_n 0, 1) := by decide +kernel
theorem dX10_seeks_63 : decode cX10_seeks 63 = .ok (.iload_n 3, 1) := by decide +kernel
theorem dX10_seeks_64 : decode cX10_seeks 64 = .ok (.invokevirtual 400, 3) := by decide +kernel
theorem dX10_seeks_67 : decode cX10_seeks 67 = .ok (.iinc 3 1, 3) := by decide +kernel
theorem dX10_seeks_70 : decode cX10_seeks 70 = .ok (.goto (-47), 3) := by decide +kernel
theorem dX10_seeks_73 : decode cX10_seeks 73 = .ok (.aload_n 0, 1) := by decide +kernel
theorem dX10_seeks_74 : decode cX10_seeks 74 = .ok (.getfield 362, 3) := by decide +kernel
theorem dX10_seeks_77 : decode cX10_seeks 77 = .ok (.ifCond .eq 8, 3) := by decide +kernel
theorem dX10_seeks_80 : decode cX10_seeks 80 = .ok (.bipush (-3), 2) := by decide +kernel
theorem dX10_seeks_82 : decode cX10_seeks 82 = .ok (.goto 5, 3) := by decide +kernel
theorem dX10_seeks_85 : decode cX10_seeks 85 = .ok (.bipush (-2), 2) := by decide +kernel
theorem dX10_seeks_87 : decode cX10_seeks 87 = .ok (.ireturn, 1) := by decide +kernel
theorem dX10_tellsWay_0 : decode cX10_tellsWay 0 = .ok (.iload_n 1, 1) := by decide +kernel
theorem dX10_tellsWay_1 : decode cX10_tellsWay 1 = .ok (.ifCond .ge 5, 3) := by decide +kernel
theorem dX10_tellsWay_4 : decode cX10_tellsWay 4 = .ok (.iload_n 1, 1) := by decide +kernel
theorem dX10_tellsWay_5 : decode cX10_tellsWay 5 = .ok (.ireturn, 1) := by decide +kernel
theorem dX10_tellsWay_6 : decode cX10_tellsWay 6 = .ok (.aload_n 0, 1) := by decide +kernel
theorem dX10_tellsWay_7 : decode cX10_tellsWay 7 = .ok (.getfield 372, 3) := by decide +kernel
theorem dX10_tellsWay_10 : decode cX10_tellsWay 10 = .ok (.iload_n 1, 1) := by decide +kernel
theorem dX10_tellsWay_11 : decode cX10_tellsWay 11 = .ok (.iaload, 1) := by decide +kernel
theorem dX10_tellsWay_12 : decode cX10_tellsWay 12 = .ok (.istore_n 2, 1) := by decide +kernel
theorem dX10_tellsWay_13 : decode cX10_tellsWay 13 = .ok (.iload_n 1, 1) := by decide +kernel
theorem dX10_tellsWay_14 : decode cX10_tellsWay 14 = .ok (.istore_n 3, 1) := by decide +kernel
theorem dX10_tellsWay_15 : decode cX10_tellsWay 15 = .ok (.iload_n 2, 1) := by decide +kernel
theorem dX10_tellsWay_16 : decode cX10_tellsWay 16 = .ok (.iconst 1, 1) := by decide +kernel
theorem dX10_tellsWay_17 : decode cX10_tellsWay 17 = .ok (.isub, 1) := by decide +kernel
theorem dX10_tellsWay_18 : decode cX10_tellsWay 18 = .ok (.istore 4, 2) := by decide +kernel
theorem dX10_tellsWay_20 : decode cX10_tellsWay 20 = .ok (.iload 4, 2) := by decide +kernel
theorem dX10_tellsWay_22 : decode cX10_tellsWay 22 = .ok (.ifCond .lt 29, 3) := by decide +kernel
theorem dX10_tellsWay_25 : decode cX10_tellsWay 25 = .ok (.aload_n 0, 1) := by decide +kernel
theorem dX10_tellsWay_26 : decode cX10_tellsWay 26 = .ok (.getfield 403, 3) := by decide +kernel
theorem dX10_tellsWay_29 : decode cX10_tellsWay 29 = .ok (.iload 4, 2) := by decide +kernel
theorem dX10_tellsWay_31 : decode cX10_tellsWay 31 = .ok (.aload_n 0, 1) := by decide +kernel
theorem dX10_tellsWay_32 : decode cX10_tellsWay 32 = .ok (.getfield 369, 3) := by decide +kernel
theorem dX10_tellsWay_35 : decode cX10_tellsWay 35 = .ok (.iload_n 3, 1) := by decide +kernel
theorem dX10_tellsWay_36 : decode cX10_tellsWay 36 = .ok (.iaload, 1) := by decide +kernel
theorem dX10_tellsWay_37 : decode cX10_tellsWay 37 = .ok (.iastore, 1) := by decide +kernel
theorem dX10_tellsWay_38 : decode cX10_tellsWay 38 = .ok (.aload_n 0, 1) := by decide +kernel
theorem dX10_tellsWay_39 : decode cX10_tellsWay 39 = .ok (.getfield 366, 3) := by decide +kernel
theorem dX10_tellsWay_42 : decode cX10_tellsWay 42 = .ok (.iload_n 3, 1) := by decide +kernel
theorem dX10_tellsWay_43 : decode cX10_tellsWay 43 = .ok (.iaload, 1) := by decide +kernel
theorem dX10_tellsWay_44 : decode cX10_tellsWay 44 = .ok (.istore_n 3, 1) := by decide +kernel
theorem dX10_tellsWay_45 : decode cX10_tellsWay 45 = .ok (.iinc 4 (-1), 3) := by decide +kernel
theorem dX10_tellsWay_48 : decode cX10_tellsWay 48 = .ok (.goto (-28), 3) := by decide +kernel
theorem dX10_tellsWay_51 : decode cX10_tellsWay 51 = .ok (.aload_n 0, 1) := by decide +kernel
theorem dX10_tellsWay_52 : decode cX10_tellsWay 52 = .ok (.iconst 0, 1) := by decide +kernel
theorem dX10_tellsWay_53 : decode cX10_tellsWay 53 = .ok (.putfield 15, 3) := by decide +kernel
theorem dX10_tellsWay_56 : decode cX10_tellsWay 56 = .ok (.iconst 0, 1) := by decide +kernel
theorem dX10_tellsWay_57 : decode cX10_tellsWay 57 = .ok (.istore 4, 2) := by decide +kernel
theorem dX10_tellsWay_59 : decode cX10_tellsWay 59 = .ok (.iload 4, 2) := by decide +kernel
theorem dX10_tellsWay_61 : decode cX10_tellsWay 61 = .ok (.iload_n 2, 1) := by decide +kernel
theorem dX10_tellsWay_62 : decode cX10_tellsWay 62 = .ok (.if_icmp .ge 28, 3) := by decide +kernel
theorem dX10_tellsWay_65 : decode cX10_tellsWay 65 = .ok (.iload 4, 2) := by decide +kernel
theorem dX10_tellsWay_67 : decode cX10_tellsWay 67 = .ok (.bipush 10, 2) := by decide +kernel
theorem dX10_tellsWay_69 : decode cX10_tellsWay 69 = .ok (.if_icmp .ge 21, 3) := by decide +kernel
theorem dX10_tellsWay_72 : decode cX10_tellsWay 72 = .ok (.aload_n 0, 1) := by decide +kernel
theorem dX10_tellsWay_73 : decode cX10_tellsWay 73 = .ok (.aload_n 0, 1) := by decide +kernel
theorem dX10_tellsWay_74 : decode cX10_tellsWay 74 = .ok (.getfield 403, 3) := by decide +kernel
theorem dX10_tellsWay_77 : decode cX10_tellsWay 77 = .ok (.iload 4, 2) := by decide +kernel
theorem dX10_tellsWay_79 : decode cX10_tellsWay 79 = .ok (.iaload, 1) := by decide +kernel
theorem dX10_tellsWay_80 : decode cX10_tellsWay 80 = .ok (.i2l, 1) := by decide +kernel
theorem dX10_tellsWay_81 : decode cX10_tellsWay 81 = .ok (.invokevirtual 18, 3) := by decide +kernel
theorem dX10_tellsWay_84 : decode cX10_tellsWay 84 = .ok (.iinc 4 1, 3) := by decide +kernel
theorem dX10_tellsWay_87 : decode cX10_tellsWay 87 = .ok (.goto (-28), 3) := by decide +kernel
theorem dX10_tellsWay_90 : decode cX10_tellsWay 90 = .ok (.iload_n 2, 1) := by decide +kernel
theorem dX10_tellsWay_91 : decode cX10_tellsWay 91 = .ok (.ireturn, 1) := by decide +kernel
theorem dX10_all_0 : decode cX10_all 0 = .ok (.aload_n 0, 1) := by decide +kernel
theorem dX10_all_1 : decode cX10_all 1 = .ok (.iconst 0, 1) := by decide +kernel
theorem dX10_all_2 : decode cX10_all 2 = .ok (.putfield 3, 3) := by decide +kernel
theorem dX10_all_5 : decode cX10_all 5 = .ok (.aload_n 0, 1) := by decide +kernel
theorem dX10_all_6 : decode cX10_all 6 = .ok (.aload_n 0, 1) := by decide +kernel
theorem dX10_all_7 : decode cX10_all 7 = .ok (.iconst 0, 1) := by decide +kernel
theorem dX10_all_8 : decode cX10_all 8 = .ok (.invokevirtual 406, 3) := by decide +kernel
theorem dX10_all_11 : decode cX10_all 11 = .ok (.invokevirtual 409, 3) := by decide +kernel
theorem dX10_all_14 : decode cX10_all 14 = .ok (.ireturn, 1) := by decide +kernel
theorem dX10_one_0 : decode cX10_one 0 = .ok (.aload_n 0, 1) := by decide +kernel
theorem dX10_one_1 : decode cX10_one 1 = .ok (.iconst 0, 1) := by decide +kernel
theorem dX10_one_2 : decode cX10_one 2 = .ok (.putfield 3, 3) := by decide +kernel
theorem dX10_one_5 : decode cX10_one 5 = .ok (.aload_n 0, 1) := by decide +kernel
theorem dX10_one_6 : decode cX10_one 6 = .ok (.iload_n 1, 1) := by decide +kernel
theorem dX10_one_7 : decode cX10_one 7 = .ok (.invokevirtual 226, 3) := by decide +kernel
theorem dX10_one_10 : decode cX10_one 10 = .ok (.ifCond .ne 5, 3) := by decide +kernel
theorem dX10_one_13 : decode cX10_one 13 = .ok (.iconst (-1), 1) := by decide +kernel
theorem dX10_one_14 : decode cX10_one 14 = .ok (.ireturn, 1) := by decide +kernel
theorem dX10_one_15 : decode cX10_one 15 = .ok (.aload_n 0, 1) := by decide +kernel
theorem dX10_one_16 : decode cX10_one 16 = .ok (.iload_n 1, 1) := by decide +kernel
theorem dX10_one_17 : decode cX10_one 17 = .ok (.putfield 388, 3) := by decide +kernel
theorem dX10_one_20 : decode cX10_one 20 = .ok (.aload_n 0, 1) := by decide +kernel
theorem dX10_one_21 : decode cX10_one 21 = .ok (.aload_n 0, 1) := by decide +kernel
theorem dX10_one_22 : decode cX10_one 22 = .ok (.iconst 1, 1) := by decide +kernel
theorem dX10_one_23 : decode cX10_one 23 = .ok (.invokevirtual 406, 3) := by decide +kernel
theorem dX10_one_26 : decode cX10_one 26 = .ok (.invokevirtual 409, 3) := by decide +kernel
theorem dX10_one_29 : decode cX10_one 29 = .ok (.ireturn, 1) := by decide +kernel
theorem dX10_gather_0 : decode cX10_gather 0 = .ok (.aload_n 0, 1) := by decide +kernel
theorem dX10_gather_1 : decode cX10_gather 1 = .ok (.iconst 0, 1) := by decide +kernel
theorem dX10_gather_2 : decode cX10_gather 2 = .ok (.putfield 3, 3) := by decide +kernel
theorem dX10_gather_5 : decode cX10_gather 5 = .ok (.aload_n 0, 1) := by decide +kernel
theorem dX10_gather_6 : decode cX10_gather 6 = .ok (.iload_n 1, 1) := by decide +kernel
theorem dX10_gather_7 : decode cX10_gather 7 = .ok (.invokevirtual 95, 3) := by decide +kernel
theorem dX10_gather_10 : decode cX10_gather 10 = .ok (.ifCond .eq 21, 3) := by decide +kernel
theorem dX10_gather_13 : decode cX10_gather 13 = .ok (.iload_n 2, 1) := by decide +kernel
theorem dX10_gather_14 : decode cX10_gather 14 = .ok (.i2l, 1) := by decide +kernel
theorem dX10_gather_15 : decode cX10_gather 15 = .ok (.lconst 0, 1) := by decide +kernel
theorem dX10_gather_16 : decode cX10_gather 16 = .ok (.iconst 1, 1) := by decide +kernel
theorem dX10_gather_17 : decode cX10_gather 17 = .ok (.aload_n 0, 1) := by decide +kernel
theorem dX10_gather_18 : decode cX10_gather 18 = .ok (.getfield 29, 3) := by decide +kernel
theorem dX10_gather_21 : decode cX10_gather 21 = .ok (.ishl, 1) := by decide +kernel
theorem dX10_gather_22 : decode cX10_gather 22 = .ok (.iconst 1, 1) := by decide +kernel
theorem dX10_gather_23 : decode cX10_gather 23 = .ok (.isub, 1) := by decide +kernel
theorem dX10_gather_24 : decode cX10_gather 24 = .ok (.i2l, 1) := by decide +kernel
theorem dX10_gather_25 : decode cX10_gather 25 = .ok (.invokestatic 25, 3) := by decide +kernel
theorem dX10_gather_28 : decode cX10_gather 28 = .ok (.ifCond .ne 5, 3) := by decide +kernel
theorem dX10_gather_31 : decode cX10_gather 31 = .ok (.iconst (-1), 1) := by decide +kernel
theorem dX10_gather_32 : decode cX10_gather 32 = .ok (.ireturn, 1) := by decide +kernel
theorem dX10_gather_33 : decode cX10_gather 33 = .ok (.aload_n 0, 1) := by decide +kernel
theorem dX10_gather_34 : decode cX10_gather 34 = .ok (.iload_n 1, 1) := by decide +kernel
theorem dX10_gather_35 : decode cX10_gather 35 = .ok (.putfield 385, 3) := by decide +kernel
theorem dX10_gather_38 : decode cX10_gather 38 = .ok (.aload_n 0, 1) := by decide +kernel
theorem dX10_gather_39 : decode cX10_gather 39 = .ok (.iload_n 2, 1) := by decide +kernel
theorem dX10_gather_40 : decode cX10_gather 40 = .ok (.putfield 388, 3) := by decide +kernel
theorem dX10_gather_43 : decode cX10_gather 43 = .ok (.aload_n 0, 1) := by decide +kernel
theorem dX10_gather_44 : decode cX10_gather 44 = .ok (.iconst 2, 1) := by decide +kernel
theorem dX10_gather_45 : decode cX10_gather 45 = .ok (.invokevirtual 406, 3) := by decide +kernel
theorem dX10_gather_48 : decode cX10_gather 48 = .ok (.istore_n 3, 1) := by decide +kernel
theorem dX10_gather_49 : decode cX10_gather 49 = .ok (.iload_n 3, 1) := by decide +kernel
theorem dX10_gather_50 : decode cX10_gather 50 = .ok (.ifCond .ge 7, 3) := by decide +kernel
theorem dX10_gather_53 : decode cX10_gather 53 = .ok (.iload_n 3, 1) := by decide +kernel
theorem dX10_gather_54 : decode cX10_gather 54 = .ok (.goto 9, 3) := by decide +kernel
theorem dX10_gather_57 : decode cX10_gather 57 = .ok (.aload_n 0, 1) := by decide +kernel
theorem dX10_gather_58 : decode cX10_gather 58 = .ok (.getfield 372, 3) := by decide +kernel
theorem dX10_gather_61 : decode cX10_gather 61 = .ok (.iload_n 3, 1) := by decide +kernel
theorem dX10_gather_62 : decode cX10_gather 62 = .ok (.iaload, 1) := by decide +kernel
theorem dX10_gather_63 : decode cX10_gather 63 = .ok (.ireturn, 1) := by decide +kernel
theorem dX10_findsAll_0 : decode cX10_findsAll 0 = .ok (.aload_n 0, 1) := by decide +kernel
theorem dX10_findsAll_1 : decode cX10_findsAll 1 = .ok (.invokevirtual 322, 3) := by decide +kernel
theorem dX10_findsAll_4 : decode cX10_findsAll 4 = .ok (.ifCond .eq 6, 3) := by decide +kernel
theorem dX10_findsAll_7 : decode cX10_findsAll 7 = .ok (.bipush (-4), 2) := by decide +kernel
theorem dX10_findsAll_9 : decode cX10_findsAll 9 = .ok (.ireturn, 1) := by decide +kernel
theorem dX10_findsAll_10 : decode cX10_findsAll 10 = .ok (.aload_n 0, 1) := by decide +kernel
theorem dX10_findsAll_11 : decode cX10_findsAll 11 = .ok (.invokevirtual 394, 3) := by decide +kernel
theorem dX10_findsAll_14 : decode cX10_findsAll 14 = .ok (.iconst 0, 1) := by decide +kernel
theorem dX10_findsAll_15 : decode cX10_findsAll 15 = .ok (.istore_n 2, 1) := by decide +kernel
theorem dX10_findsAll_16 : decode cX10_findsAll 16 = .ok (.iload_n 2, 1) := by decide +kernel
theorem dX10_findsAll_17 : decode cX10_findsAll 17 = .ok (.aload_n 0, 1) := by decide +kernel
theorem dX10_findsAll_18 : decode cX10_findsAll 18 = .ok (.getfield 359, 3) := by decide +kernel
theorem dX10_findsAll_21 : decode cX10_findsAll 21 = .ok (.if_icmp .ge 31, 3) := by decide +kernel
theorem dX10_findsAll_24 : decode cX10_findsAll 24 = .ok (.aload_n 0, 1) := by decide +kernel
theorem dX10_findsAll_25 : decode cX10_findsAll 25 = .ok (.getfield 362, 3) := by decide +kernel
theorem dX10_findsAll_28 : decode cX10_findsAll 28 = .ok (.ifCond .ne 24, 3) := by decide +kernel
theorem dX10_findsAll_31 : decode cX10_findsAll 31 = .ok (.aload_n 0, 1) := by decide +kernel
theorem dX10_findsAll_32 : decode cX10_findsAll 32 = .ok (.getfield 372, 3) := by decide +kernel
theorem dX10_findsAll_35 : decode cX10_findsAll 35 = .ok (.iload_n 2, 1) := by decide +kernel
theorem dX10_findsAll_36 : decode cX10_findsAll 36 = .ok (.iaload, 1) := by decide +kernel
theorem dX10_findsAll_37 : decode cX10_findsAll 37 = .ok (.iload_n 1, 1) := by decide +kernel
theorem dX10_findsAll_38 : decode cX10_findsAll 38 = .ok (.if_icmp .ge 8, 3) := by decide +kernel
theorem dX10_findsAll_41 : decode cX10_findsAll 41 = .ok (.aload_n 0, 1) := by decide +kernel
theorem dX10_findsAll_42 : decode cX10_findsAll 42 = .ok (.iload_n 2, 1) := by decide +kernel
theorem dX10_findsAll_43 : decode cX10_findsAll 43 = .ok (.invokevirtual 400, 3) := by decide +kernel
theorem dX10_findsAll_46 : decode cX10_findsAll 46 = .ok (.iinc 2 1, 3) := by decide +kernel
theorem dX10_findsAll_49 : decode cX10_findsAll 49 = .ok (.goto (-33), 3) := by decide +kernel
theorem dX10_findsAll_52 : decode cX10_findsAll 52 = .ok (.aload_n 0, 1) := by decide +kernel
theorem dX10_findsAll_53 : decode cX10_findsAll 53 = .ok (.getfield 362, 3) := by decide +kernel
theorem dX10_findsAll_56 : decode cX10_findsAll 56 = .ok (.ifCond .eq 8, 3) := by decide +kernel
theorem dX10_findsAll_59 : decode cX10_findsAll 59 = .ok (.bipush (-3), 2) := by decide +kernel
theorem dX10_findsAll_61 : decode cX10_findsAll 61 = .ok (.goto 7, 3) := by decide +kernel
theorem dX10_findsAll_64 : decode cX10_findsAll 64 = .ok (.aload_n 0, 1) := by decide +kernel
theorem dX10_findsAll_65 : decode cX10_findsAll 65 = .ok (.getfield 359, 3) := by decide +kernel
theorem dX10_findsAll_68 : decode cX10_findsAll 68 = .ok (.ireturn, 1) := by decide +kernel
theorem dX10_states_0 : decode cX10_states 0 = .ok (.aload_n 0, 1) := by decide +kernel
theorem dX10_states_1 : decode cX10_states 1 = .ok (.iconst 0, 1) := by decide +kernel
theorem dX10_states_2 : decode cX10_states 2 = .ok (.putfield 3, 3) := by decide +kernel
theorem dX10_states_5 : decode cX10_states 5 = .ok (.iload_n 1, 1) := by decide +kernel
theorem dX10_states_6 : decode cX10_states 6 = .ok (.i2l, 1) := by decide +kernel
theorem dX10_states_7 : decode cX10_states 7 = .ok (.lconst 0, 1) := by decide +kernel
theorem dX10_states_8 : decode cX10_states 8 = .ok (.ldc2_w 412, 3) := by decide +kernel
theorem dX10_states_11 : decode cX10_states 11 = .ok (.invokestatic 25, 3) := by decide +kernel
theorem dX10_states_14 : decode cX10_states 14 = .ok (.ifCond .ne 5, 3) := by decide +kernel
theorem dX10_states_17 : decode cX10_states 17 = .ok (.iconst (-1), 1) := by decide +kernel
theorem dX10_states_18 : decode cX10_states 18 = .ok (.ireturn, 1) := by decide +kernel
theorem dX10_states_19 : decode cX10_states 19 = .ok (.aload_n 0, 1) := by decide +kernel
theorem dX10_states_20 : decode cX10_states 20 = .ok (.iload_n 1, 1) := by decide +kernel
theorem dX10_states_21 : decode cX10_states 21 = .ok (.invokevirtual 414, 3) := by decide +kernel
theorem dX10_states_24 : decode cX10_states 24 = .ok (.istore_n 2, 1) := by decide +kernel
theorem dX10_states_25 : decode cX10_states 25 = .ok (.iload_n 2, 1) := by decide +kernel
theorem dX10_states_26 : decode cX10_states 26 = .ok (.ifCond .ge 5, 3) := by decide +kernel
theorem dX10_states_29 : decode cX10_states 29 = .ok (.iload_n 2, 1) := by decide +kernel
theorem dX10_states_30 : decode cX10_states 30 = .ok (.ireturn, 1) := by decide +kernel
theorem dX10_states_31 : decode cX10_states 31 = .ok (.iconst 0, 1) := by decide +kernel
theorem dX10_states_32 : decode cX10_states 32 = .ok (.istore_n 3, 1) := by decide +kernel
theorem dX10_states_33 : decode cX10_states 33 = .ok (.iconst 0, 1) := by decide +kernel
theorem dX10_states_34 : decode cX10_states 34 = .ok (.istore 4, 2) := by decide +kernel
theorem dX10_states_36 : decode cX10_states 36 = .ok (.iconst 0, 1) := by decide +kernel
theorem dX10_states_37 : decode cX10_states 37 = .ok (.istore 5, 2) := by decide +kernel
theorem dX10_states_39 : decode cX10_states 39 = .ok (.iload 5, 2) := by decide +kernel
theorem dX10_states_41 : decode cX10_states 41 = .ok (.aload_n 0, 1) := by decide +kernel
theorem dX10_states_42 : decode cX10_states 42 = .ok (.getfield 359, 3) := by decide +kernel
theorem dX10_states_45 : decode cX10_states 45 = .ok (.if_icmp .ge 40, 3) := by decide +kernel
theorem dX10_states_48 : decode cX10_states 48 = .ok (.aload_n 0, 1) := by decide +kernel
theorem dX10_states_49 : decode cX10_states 49 = .ok (.iload 5, 2) := by decide +kernel
theorem dX10_states_51 : decode cX10_states 51 = .ok (.invokevirtual 379, 3) := by decide +kernel
theorem dX10_states_54 : decode cX10_states 54 = .ok (.iload_n 3, 1) := by decide +kernel
theorem dX10_states_55 : decode cX10_states 55 = .ok (.aload_n 0, 1) := by decide +kernel
theorem dX10_states_56 : decode cX10_states 56 = .ok (.aload_n 0, 1) := by decide +kernel
theorem dX10_states_57 : decode cX10_states 57 = .ok (.getfield 313, 3) := by decide +kernel
theorem dX10_states_60 : decode cX10_states 60 = .ok (.invokevirtual 391, 3) := by decide +kernel
theorem dX10_states_63 : decode cX10_states 63 = .ok (.ior, 1) := by decide +kernel
theorem dX10_states_64 : decode cX10_states 64 = .ok (.istore_n 3, 1) := by decide +kernel
theorem dX10_states_65 : decode cX10_states 65 = .ok (.iload 4, 2) := by decide +kernel
theorem dX10_states_67 : decode cX10_states 67 = .ok (.iconst 1, 1) := by decide +kernel
theorem dX10_states_68 : decode cX10_states 68 = .ok (.aload_n 0, 1) := by decide +kernel
theorem dX10_states_69 : decode cX10_states 69 = .ok (.getfield 313, 3) := by decide +kernel
theorem dX10_states_72 : decode cX10_states 72 = .ok (.bipush 31, 2) := by decide +kernel
theorem dX10_states_74 : decode cX10_states 74 = .ok (.iaload, 1) := by decide +kernel
theorem dX10_states_75 : decode cX10_states 75 = .ok (.ishl, 1) := by decide +kernel
theorem dX10_states_76 : decode cX10_states 76 = .ok (.ior, 1) := by decide +kernel
theorem dX10_states_77 : decode cX10_states 77 = .ok (.istore 4, 2) := by decide +kernel
theorem dX10_states_79 : decode cX10_states 79 = .ok (.iinc 5 1, 3) := by decide +kernel
theorem dX10_states_82 : decode cX10_states 82 = .ok (.goto (-43), 3) := by decide +kernel
theorem dX10_states_85 : decode cX10_states 85 = .ok (.aload_n 0, 1) := by decide +kernel
theorem dX10_states_86 : decode cX10_states 86 = .ok (.iconst 0, 1) := by decide +kernel
theorem dX10_states_87 : decode cX10_states 87 = .ok (.putfield 15, 3) := by decide +kernel
theorem dX10_states_90 : decode cX10_states 90 = .ok (.aload_n 0, 1) := by decide +kernel
theorem dX10_states_91 : decode cX10_states 91 = .ok (.iload_n 3, 1) := by decide +kernel
theorem dX10_states_92 : decode cX10_states 92 = .ok (.i2l, 1) := by decide +kernel
theorem dX10_states_93 : decode cX10_states 93 = .ok (.invokevirtual 18, 3) := by decide +kernel
theorem dX10_states_96 : decode cX10_states 96 = .ok (.aload_n 0, 1) := by decide +kernel
theorem dX10_states_97 : decode cX10_states 97 = .ok (.iload 4, 2) := by decide +kernel
theorem dX10_states_99 : decode cX10_states 99 = .ok (.i2l, 1) := by decide +kernel
theorem dX10_states_100 : decode cX10_states 100 = .ok (.invokevirtual 18, 3) := by decide +kernel
theorem dX10_states_103 : decode cX10_states 103 = .ok (.iload_n 2, 1) := by decide +kernel
theorem dX10_states_104 : decode cX10_states 104 = .ok (.ireturn, 1) := by decide +kernel
theorem dX10_stuck_0 : decode cX10_stuck 0 = .ok (.aload_n 0, 1) := by decide +kernel
theorem dX10_stuck_1 : decode cX10_stuck 1 = .ok (.iconst 0, 1) := by decide +kernel
theorem dX10_stuck_2 : decode cX10_stuck 2 = .ok (.putfield 3, 3) := by decide +kernel
theorem dX10_stuck_5 : decode cX10_stuck 5 = .ok (.aload_n 0, 1) := by decide +kernel
theorem dX10_stuck_6 : decode cX10_stuck 6 = .ok (.ldc_w 417, 3) := by decide +kernel
theorem dX10_stuck_9 : decode cX10_stuck 9 = .ok (.invokevirtual 414, 3) := by decide +kernel
theorem dX10_stuck_12 : decode cX10_stuck 12 = .ok (.istore_n 1, 1) := by decide +kernel
theorem dX10_stuck_13 : decode cX10_stuck 13 = .ok (.iload_n 1, 1) := by decide +kernel
theorem dX10_stuck_14 : decode cX10_stuck 14 = .ok (.ifCond .ge 5, 3) := by decide +kernel
theorem dX10_stuck_17 : decode cX10_stuck 17 = .ok (.iload_n 1, 1) := by decide +kernel
theorem dX10_stuck_18 : decode cX10_stuck 18 = .ok (.ireturn, 1) := by decide +kernel
theorem dX10_stuck_19 : decode cX10_stuck 19 = .ok (.iconst 0, 1) := by decide +kernel
theorem dX10_stuck_20 : decode cX10_stuck 20 = .ok (.istore_n 2, 1) := by decide +kernel
theorem dX10_stuck_21 : decode cX10_stuck 21 = .ok (.iconst 0, 1) := by decide +kernel
theorem dX10_stuck_22 : decode cX10_stuck 22 = .ok (.istore_n 3, 1) := by decide +kernel
theorem dX10_stuck_23 : decode cX10_stuck 23 = .ok (.iload_n 3, 1) := by decide +kernel
theorem dX10_stuck_24 : decode cX10_stuck 24 = .ok (.aload_n 0, 1) := by decide +kernel
theorem dX10_stuck_25 : decode cX10_stuck 25 = .ok (.getfield 359, 3) := by decide +kernel
theorem dX10_stuck_28 : decode cX10_stuck 28 = .ok (.if_icmp .ge 25, 3) := by decide +kernel
theorem dX10_stuck_31 : decode cX10_stuck 31 = .ok (.aload_n 0, 1) := by decide +kernel
theorem dX10_stuck_32 : decode cX10_stuck 32 = .ok (.iload_n 3, 1) := by decide +kernel
theorem dX10_stuck_33 : decode cX10_stuck 33 = .ok (.invokevirtual 379, 3) := by decide +kernel
theorem dX10_stuck_36 : decode cX10_stuck 36 = .ok (.iload_n 2, 1) := by decide +kernel
theorem dX10_stuck_37 : decode cX10_stuck 37 = .ok (.aload_n 0, 1) := by decide +kernel
theorem dX10_stuck_38 : decode cX10_stuck 38 = .ok (.aload_n 0, 1) := by decide +kernel
theorem dX10_stuck_39 : decode cX10_stuck 39 = .ok (.getfield 313, 3) := by decide +kernel
theorem dX10_stuck_42 : decode cX10_stuck 42 = .ok (.invokevirtual 391, 3) := by decide +kernel
theorem dX10_stuck_45 : decode cX10_stuck 45 = .ok (.ior, 1) := by decide +kernel
theorem dX10_stuck_46 : decode cX10_stuck 46 = .ok (.istore_n 2, 1) := by decide +kernel
theorem dX10_stuck_47 : decode cX10_stuck 47 = .ok (.iinc 3 1, 3) := by decide +kernel
theorem dX10_stuck_50 : decode cX10_stuck 50 = .ok (.goto (-27), 3) := by decide +kernel
theorem dX10_stuck_53 : decode cX10_stuck 53 = .ok (.iconst 1, 1) := by decide +kernel
theorem dX10_stuck_54 : decode cX10_stuck 54 = .ok (.aload_n 0, 1) := by decide +kernel
theorem dX10_stuck_55 : decode cX10_stuck 55 = .ok (.getfield 29, 3) := by decide +kernel
theorem dX10_stuck_58 : decode cX10_stuck 58 = .ok (.ishl, 1) := by decide +kernel
theorem dX10_stuck_59 : decode cX10_stuck 59 = .ok (.iconst 1, 1) := by decide +kernel
theorem dX10_stuck_60 : decode cX10_stuck 60 = .ok (.isub, 1) := by decide +kernel
theorem dX10_stuck_61 : decode cX10_stuck 61 = .ok (.iload_n 2, 1) := by decide +kernel
theorem dX10_stuck_62 : decode cX10_stuck 62 = .ok (.iconst (-1), 1) := by decide +kernel
theorem dX10_stuck_63 : decode cX10_stuck 63 = .ok (.ixor, 1) := by decide +kernel
theorem dX10_stuck_64 : decode cX10_stuck 64 = .ok (.iand, 1) := by decide +kernel
theorem dX10_stuck_65 : decode cX10_stuck 65 = .ok (.ireturn, 1) := by decide +kernel
theorem dX10_saw_0 : decode cX10_saw 0 = .ok (.aload_n 0, 1) := by decide +kernel
theorem dX10_saw_1 : decode cX10_saw 1 = .ok (.iconst 0, 1) := by decide +kernel
theorem dX10_saw_2 : decode cX10_saw 2 = .ok (.putfield 3, 3) := by decide +kernel
theorem dX10_saw_5 : decode cX10_saw 5 = .ok (.aload_n 0, 1) := by decide +kernel
theorem dX10_saw_6 : decode cX10_saw 6 = .ok (.iload_n 1, 1) := by decide +kernel
theorem dX10_saw_7 : decode cX10_saw 7 = .ok (.invokevirtual 95, 3) := by decide +kernel
theorem dX10_saw_10 : decode cX10_saw 10 = .ok (.ifCond .eq 43, 3) := by decide +kernel
theorem dX10_saw_13 : decode cX10_saw 13 = .ok (.aload_n 0, 1) := by decide +kernel
theorem dX10_saw_14 : decode cX10_saw 14 = .ok (.iload_n 3, 1) := by decide +kernel
theorem dX10_saw_15 : decode cX10_saw 15 = .ok (.invokevirtual 95, 3) := by decide +kernel
theorem dX10_saw_18 : decode cX10_saw 18 = .ok (.ifCond .eq 35, 3) := by decide +kernel
theorem dX10_saw_21 : decode cX10_saw 21 = .ok (.iload_n 1, 1) := by decide +kernel
theorem dX10_saw_22 : decode cX10_saw 22 = .ok (.iload_n 3, 1) := by decide +kernel
theorem dX10_saw_23 : decode cX10_saw 23 = .ok (.if_icmp .eq 30, 3) := by decide +kernel
theorem dX10_saw_26 : decode cX10_saw 26 = .ok (.iload_n 2, 1) := by decide +kernel
theorem dX10_saw_27 : decode cX10_saw 27 = .ok (.i2l, 1) := by decide +kernel
theorem dX10_saw_28 : decode cX10_saw 28 = .ok (.lconst 0, 1) := by decide +kernel
theorem dX10_saw_29 : decode cX10_saw 29 = .ok (.iconst 1, 1) := by decide +kernel
theorem dX10_saw_30 : decode cX10_saw 30 = .ok (.aload_n 0, 1) := by decide +kernel
theorem dX10_saw_31 : decode cX10_saw 31 = .ok (.getfield 29, 3) := by decide +kernel
theorem dX10_saw_34 : decode cX10_saw 34 = .ok (.ishl, 1) := by decide +kernel
theorem dX10_saw_35 : decode cX10_saw 35 = .ok (.iconst 1, 1) := by decide +kernel
theorem dX10_saw_36 : decode cX10_saw 36 = .ok (.isub, 1) := by decide +kernel
theorem dX10_saw_37 : decode cX10_saw 37 = .ok (.i2l, 1) := by decide +kernel
theorem dX10_saw_38 : decode cX10_saw 38 = .ok (.invokestatic 25, 3) := by decide +kernel
theorem dX10_saw_41 : decode cX10_saw 41 = .ok (.ifCond .eq 12, 3) := by decide +kernel
theorem dX10_saw_44 : decode cX10_saw 44 = .ok (.aload_n 0, 1) := by decide +kernel
theorem dX10_saw_45 : decode cX10_saw 45 = .ok (.getfield 85, 3) := by decide +kernel
theorem dX10_saw_48 : decode cX10_saw 48 = .ok (.bipush 8, 2) := by decide +kernel
theorem dX10_saw_50 : decode cX10_saw 50 = .ok (.if_icmp .ne 5, 3) := by decide +kernel
theorem dX10_saw_53 : decode cX10_saw 53 = .ok (.iconst (-1), 1) := by decide +kernel
theorem dX10_saw_54 : decode cX10_saw 54 = .ok (.ireturn, 1) := by decide +kernel
theorem dX10_saw_55 : decode cX10_saw 55 = .ok (.aload_n 0, 1) := by decide +kernel
theorem dX10_saw_56 : decode cX10_saw 56 = .ok (.getfield 418, 3) := by decide +kernel
theorem dX10_saw_59 : decode cX10_saw 59 = .ok (.aload_n 0, 1) := by decide +kernel
theorem dX10_saw_60 : decode cX10_saw 60 = .ok (.getfield 85, 3) := by decide +kernel
theorem dX10_saw_63 : decode cX10_saw 63 = .ok (.iload_n 1, 1) := by decide +kernel
theorem dX10_saw_64 : decode cX10_saw 64 = .ok (.iastore, 1) := by decide +kernel
theorem dX10_saw_65 : decode cX10_saw 65 = .ok (.aload_n 0, 1) := by decide +kernel
theorem dX10_saw_66 : decode cX10_saw 66 = .ok (.getfield 421, 3) := by decide +kernel
theorem dX10_saw_69 : decode cX10_saw 69 = .ok (.aload_n 0, 1) := by decide +kernel
theorem dX10_saw_70 : decode cX10_saw 70 = .ok (.getfield 85, 3) := by decide +kernel
theorem dX10_saw_73 : decode cX10_saw 73 = .ok (.iload_n 2, 1) := by decide +kernel
theorem dX10_saw_74 : decode cX10_saw 74 = .ok (.iastore, 1) := by decide +kernel
theorem dX10_saw_75 : decode cX10_saw 75 = .ok (.aload_n 0, 1) := by decide +kernel
theorem dX10_saw_76 : decode cX10_saw 76 = .ok (.getfield 424, 3) := by decide +kernel
theorem dX10_saw_79 : decode cX10_saw 79 = .ok (.aload_n 0, 1) := by decide +kernel
theorem dX10_saw_80 : decode cX10_saw 80 = .ok (.getfield 85, 3) := by decide +kernel
theorem dX10_saw_83 : decode cX10_saw 83 = .ok (.iload_n 3, 1) := by decide +kernel
theorem dX10_saw_84 : decode cX10_saw 84 = .ok (.iastore, 1) := by decide +kernel
theorem dX10_saw_85 : decode cX10_saw 85 = .ok (.aload_n 0, 1) := by decide +kernel
theorem dX10_saw_86 : decode cX10_saw 86 = .ok (.dup, 1) := by decide +kernel
theorem dX10_saw_87 : decode cX10_saw 87 = .ok (.getfield 85, 3) := by decide +kernel
theorem dX10_saw_90 : decode cX10_saw 90 = .ok (.iconst 1, 1) := by decide +kernel
theorem dX10_saw_91 : decode cX10_saw 91 = .ok (.iadd, 1) := by decide +kernel
theorem dX10_saw_92 : decode cX10_saw 92 = .ok (.putfield 85, 3) := by decide +kernel
theorem dX10_saw_95 : decode cX10_saw 95 = .ok (.aload_n 0, 1) := by decide +kernel
theorem dX10_saw_96 : decode cX10_saw 96 = .ok (.getfield 85, 3) := by decide +kernel
theorem dX10_saw_99 : decode cX10_saw 99 = .ok (.ireturn, 1) := by decide +kernel
theorem dX10_forget_0 : decode cX10_forget 0 = .ok (.aload_n 0, 1) := by decide +kernel
theorem dX10_forget_1 : decode cX10_forget 1 = .ok (.iconst 0, 1) := by decide +kernel
theorem dX10_forget_2 : decode cX10_forget 2 = .ok (.putfield 3, 3) := by decide +kernel
theorem dX10_forget_5 : decode cX10_forget 5 = .ok (.aload_n 0, 1) := by decide +kernel
theorem dX10_forget_6 : decode cX10_forget 6 = .ok (.getfield 85, 3) := by decide +kernel
theorem dX10_forget_9 : decode cX10_forget 9 = .ok (.istore_n 1, 1) := by decide +kernel
theorem dX10_forget_10 : decode cX10_forget 10 = .ok (.aload_n 0, 1) := by decide +kernel
theorem dX10_forget_11 : decode cX10_forget 11 = .ok (.iconst 0, 1) := by decide +kernel
theorem dX10_forget_12 : decode cX10_forget 12 = .ok (.putfield 85, 3) := by decide +kernel
theorem dX10_forget_15 : decode cX10_forget 15 = .ok (.iload_n 1, 1) := by decide +kernel
theorem dX10_forget_16 : decode cX10_forget 16 = .ok (.ireturn, 1) := by decide +kernel
theorem dX10_isSo_0 : decode cX10_isSo 0 = .ok (.iconst 0, 1) := by decide +kernel
theorem dX10_isSo_1 : decode cX10_isSo 1 = .ok (.istore_n 2, 1) := by decide +kernel
theorem dX10_isSo_2 : decode cX10_isSo 2 = .ok (.iload_n 2, 1) := by decide +kernel
theorem dX10_isSo_3 : decode cX10_isSo 3 = .ok (.aload_n 0, 1) := by decide +kernel
theorem dX10_isSo_4 : decode cX10_isSo 4 = .ok (.getfield 29, 3) := by decide +kernel
theorem dX10_isSo_7 : decode cX10_isSo 7 = .ok (.if_icmp .ge 17, 3) := by decide +kernel
theorem dX10_isSo_10 : decode cX10_isSo 10 = .ok (.aload_n 0, 1) := by decide +kernel
theorem dX10_isSo_11 : decode cX10_isSo 11 = .ok (.getfield 313, 3) := by decide +kernel
theorem dX10_isSo_14 : decode cX10_isSo 14 = .ok (.iload_n 2, 1) := by decide +kernel
theorem dX10_isSo_15 : decode cX10_isSo 15 = .ok (.bipush 9, 2) := by decide +kernel
theorem dX10_isSo_17 : decode cX10_isSo 17 = .ok (.iastore, 1) := by decide +kernel
theorem dX10_isSo_18 : decode cX10_isSo 18 = .ok (.iinc 2 1, 3) := by decide +kernel
theorem dX10_isSo_21 : decode cX10_isSo 21 = .ok (.goto (-19), 3) := by decide +kernel
theorem dX10_isSo_24 : decode cX10_isSo 24 = .ok (.aload_n 0, 1) := by decide +kernel
theorem dX10_isSo_25 : decode cX10_isSo 25 = .ok (.getfield 313, 3) := by decide +kernel
theorem dX10_isSo_28 : decode cX10_isSo 28 = .ok (.bipush 31, 2) := by decide +kernel
theorem dX10_isSo_30 : decode cX10_isSo 30 = .ok (.aload_n 0, 1) := by decide +kernel
theorem dX10_isSo_31 : decode cX10_isSo 31 = .ok (.getfield 418, 3) := by decide +kernel
theorem dX10_isSo_34 : decode cX10_isSo 34 = .ok (.iload_n 1, 1) := by decide +kernel
theorem dX10_isSo_35 : decode cX10_isSo 35 = .ok (.iaload, 1) := by decide +kernel
theorem dX10_isSo_36 : decode cX10_isSo 36 = .ok (.iastore, 1) := by decide +kernel
theorem dX10_isSo_37 : decode cX10_isSo 37 = .ok (.aload_n 0, 1) := by decide +kernel
theorem dX10_isSo_38 : decode cX10_isSo 38 = .ok (.getfield 313, 3) := by decide +kernel
theorem dX10_isSo_41 : decode cX10_isSo 41 = .ok (.bipush 32, 2) := by decide +kernel
theorem dX10_isSo_43 : decode cX10_isSo 43 = .ok (.iconst 0, 1) := by decide +kernel
theorem dX10_isSo_44 : decode cX10_isSo 44 = .ok (.iastore, 1) := by decide +kernel
theorem dX10_isSo_45 : decode cX10_isSo 45 = .ok (.aload_n 0, 1) := by decide +kernel
theorem dX10_isSo_46 : decode cX10_isSo 46 = .ok (.aload_n 0, 1) := by decide +kernel
theorem dX10_isSo_47 : decode cX10_isSo 47 = .ok (.getfield 313, 3) := by decide +kernel
theorem dX10_isSo_50 : decode cX10_isSo 50 = .ok (.aload_n 0, 1) := by decide +kernel
theorem dX10_isSo_51 : decode cX10_isSo 51 = .ok (.getfield 421, 3) := by decide +kernel
theorem dX10_isSo_54 : decode cX10_isSo 54 = .ok (.iload_n 1, 1) := by decide +kernel
theorem dX10_isSo_55 : decode cX10_isSo 55 = .ok (.iaload, 1) := by decide +kernel
theorem dX10_isSo_56 : decode cX10_isSo 56 = .ok (.invokevirtual 215, 3) := by decide +kernel
theorem dX10_isSo_59 : decode cX10_isSo 59 = .ok (.aload_n 0, 1) := by decide +kernel
theorem dX10_isSo_60 : decode cX10_isSo 60 = .ok (.invokevirtual 219, 3) := by decide +kernel
theorem dX10_isSo_63 : decode cX10_isSo 63 = .ok (.aload_n 0, 1) := by decide +kernel
theorem dX10_isSo_64 : decode cX10_isSo 64 = .ok (.getfield 424, 3) := by decide +kernel
theorem dX10_isSo_67 : decode cX10_isSo 67 = .ok (.iload_n 1, 1) := by decide +kernel
theorem dX10_isSo_68 : decode cX10_isSo 68 = .ok (.iaload, 1) := by decide +kernel
theorem dX10_isSo_69 : decode cX10_isSo 69 = .ok (.if_icmp .ne 7, 3) := by decide +kernel
theorem dX10_isSo_72 : decode cX10_isSo 72 = .ok (.iconst 1, 1) := by decide +kernel
theorem dX10_isSo_73 : decode cX10_isSo 73 = .ok (.goto 4, 3) := by decide +kernel
theorem dX10_isSo_76 : decode cX10_isSo 76 = .ok (.iconst 0, 1) := by decide +kernel
theorem dX10_isSo_77 : decode cX10_isSo 77 = .ok (.ireturn, 1) := by decide +kernel
theorem dX10_areSo_0 : decode cX10_areSo 0 = .ok (.iconst 1, 1) := by decide +kernel
theorem dX10_areSo_1 : decode cX10_areSo 1 = .ok (.istore_n 1, 1) := by decide +kernel
theorem dX10_areSo_2 : decode cX10_areSo 2 = .ok (.iconst 0, 1) := by decide +kernel
theorem dX10_areSo_3 : decode cX10_areSo 3 = .ok (.istore_n 2, 1) := by decide +kernel
theorem dX10_areSo_4 : decode cX10_areSo 4 = .ok (.iload_n 2, 1) := by decide +kernel
theorem dX10_areSo_5 : decode cX10_areSo 5 = .ok (.aload_n 0, 1) := by decide +kernel
theorem dX10_areSo_6 : decode cX10_areSo 6 = .ok (.getfield 85, 3) := by decide +kernel
theorem dX10_areSo_9 : decode cX10_areSo 9 = .ok (.if_icmp .ge 19, 3) := by decide +kernel
theorem dX10_areSo_12 : decode cX10_areSo 12 = .ok (.iload_n 1, 1) := by decide +kernel
theorem dX10_areSo_13 : decode cX10_areSo 13 = .ok (.ifCond .eq 15, 3) := by decide +kernel
theorem dX10_areSo_16 : decode cX10_areSo 16 = .ok (.aload_n 0, 1) := by decide +kernel
theorem dX10_areSo_17 : decode cX10_areSo 17 = .ok (.iload_n 2, 1) := by decide +kernel
theorem dX10_areSo_18 : decode cX10_areSo 18 = .ok (.invokevirtual 427, 3) := by decide +kernel
theorem dX10_areSo_21 : decode cX10_areSo 21 = .ok (.istore_n 1, 1) := by decide +kernel
theorem dX10_areSo_22 : decode cX10_areSo 22 = .ok (.iinc 2 1, 3) := by decide +kernel
theorem dX10_areSo_25 : decode cX10_areSo 25 = .ok (.goto (-21), 3) := by decide +kernel
theorem dX10_areSo_28 : decode cX10_areSo 28 = .ok (.iload_n 1, 1) := by decide +kernel
theorem dX10_areSo_29 : decode cX10_areSo 29 = .ok (.ireturn, 1) := by decide +kernel
theorem dX10_believed_0 : decode cX10_believed 0 = .ok (.aload_n 0, 1) := by decide +kernel
theorem dX10_believed_1 : decode cX10_believed 1 = .ok (.iconst 0, 1) := by decide +kernel
theorem dX10_believed_2 : decode cX10_believed 2 = .ok (.putfield 3, 3) := by decide +kernel
theorem dX10_believed_5 : decode cX10_believed 5 = .ok (.aload_n 0, 1) := by decide +kernel
theorem dX10_believed_6 : decode cX10_believed 6 = .ok (.getfield 79, 3) := by decide +kernel
theorem dX10_believed_9 : decode cX10_believed 9 = .ok (.aload_n 0, 1) := by decide +kernel
theorem dX10_believed_10 : decode cX10_believed 10 = .ok (.getfield 313, 3) := by decide +kernel
theorem dX10_believed_13 : decode cX10_believed 13 = .ok (.invokestatic 316, 3) := by decide +kernel
theorem dX10_believed_16 : decode cX10_believed 16 = .ok (.iconst 0, 1) := by decide +kernel
theorem dX10_believed_17 : decode cX10_believed 17 = .ok (.istore_n 1, 1) := by decide +kernel
theorem dX10_believed_18 : decode cX10_believed 18 = .ok (.iconst 0, 1) := by decide +kernel
theorem dX10_believed_19 : decode cX10_believed 19 = .ok (.istore_n 2, 1) := by decide +kernel
theorem dX10_believed_20 : decode cX10_believed 20 = .ok (.iload_n 2, 1) := by decide +kernel
theorem dX10_believed_21 : decode cX10_believed 21 = .ok (.aload_n 0, 1) := by decide +kernel
theorem dX10_believed_22 : decode cX10_believed 22 = .ok (.getfield 85, 3) := by decide +kernel
theorem dX10_believed_25 : decode cX10_believed 25 = .ok (.if_icmp .ge 27, 3) := by decide +kernel
theorem dX10_believed_28 : decode cX10_believed 28 = .ok (.iload_n 1, 1) := by decide +kernel
theorem dX10_believed_29 : decode cX10_believed 29 = .ok (.aload_n 0, 1) := by decide +kernel
theorem dX10_believed_30 : decode cX10_believed 30 = .ok (.iload_n 2, 1) := by decide +kernel
theorem dX10_believed_31 : decode cX10_believed 31 = .ok (.invokevirtual 427, 3) := by decide +kernel
theorem dX10_believed_34 : decode cX10_believed 34 = .ok (.ifCond .eq 7, 3) := by decide +kernel
theorem dX10_believed_37 : decode cX10_believed 37 = .ok (.iconst 0, 1) := by decide +kernel
theorem dX10_believed_38 : decode cX10_believed 38 = .ok (.goto 6, 3) := by decide +kernel
theorem dX10_believed_41 : decode cX10_believed 41 = .ok (.iconst 1, 1) := by decide +kernel
theorem dX10_believed_42 : decode cX10_believed 42 = .ok (.iload_n 2, 1) := by decide +kernel
theorem dX10_believed_43 : decode cX10_believed 43 = .ok (.ishl, 1) := by decide +kernel
theorem dX10_believed_44 : decode cX10_believed 44 = .ok (.ior, 1) := by decide +kernel
theorem dX10_believed_45 : decode cX10_believed 45 = .ok (.istore_n 1, 1) := by decide +kernel
theorem dX10_believed_46 : decode cX10_believed 46 = .ok (.iinc 2 1, 3) := by decide +kernel
theorem dX10_believed_49 : decode cX10_believed 49 = .ok (.goto (-29), 3) := by decide +kernel
theorem dX10_believed_52 : decode cX10_believed 52 = .ok (.aload_n 0, 1) := by decide +kernel
theorem dX10_believed_53 : decode cX10_believed 53 = .ok (.iconst 0, 1) := by decide +kernel
theorem dX10_believed_54 : decode cX10_believed 54 = .ok (.putfield 15, 3) := by decide +kernel
theorem dX10_believed_57 : decode cX10_believed 57 = .ok (.aload_n 0, 1) := by decide +kernel
theorem dX10_believed_58 : decode cX10_believed 58 = .ok (.iload_n 1, 1) := by decide +kernel
theorem dX10_believed_59 : decode cX10_believed 59 = .ok (.i2l, 1) := by decide +kernel
theorem dX10_believed_60 : decode cX10_believed 60 = .ok (.invokevirtual 18, 3) := by decide +kernel
theorem dX10_believed_63 : decode cX10_believed 63 = .ok (.iload_n 1, 1) := by decide +kernel
theorem dX10_believed_64 : decode cX10_believed 64 = .ok (.ifCond .ne 7, 3) := by decide +kernel
theorem dX10_believed_67 : decode cX10_believed 67 = .ok (.iconst 1, 1) := by decide +kernel
theorem dX10_believed_68 : decode cX10_believed 68 = .ok (.goto 4, 3) := by decide +kernel
theorem dX10_believed_71 : decode cX10_believed 71 = .ok (.iconst 0, 1) := by decide +kernel
theorem dX10_believed_72 : decode cX10_believed 72 = .ok (.invokestatic 54, 3) := by decide +kernel
theorem dX10_believed_75 : decode cX10_believed 75 = .ok (.ireturn, 1) := by decide +kernel
theorem dX10_fits_0 : decode cX10_fits 0 = .ok (.aload_n 0, 1) := by decide +kernel
theorem dX10_fits_1 : decode cX10_fits 1 = .ok (.iconst 0, 1) := by decide +kernel
theorem dX10_fits_2 : decode cX10_fits 2 = .ok (.putfield 3, 3) := by decide +kernel
theorem dX10_fits_5 : decode cX10_fits 5 = .ok (.aload_n 0, 1) := by decide +kernel
theorem dX10_fits_6 : decode cX10_fits 6 = .ok (.iload_n 1, 1) := by decide +kernel
theorem dX10_fits_7 : decode cX10_fits 7 = .ok (.invokevirtual 226, 3) := by decide +kernel
theorem dX10_fits_10 : decode cX10_fits 10 = .ok (.ifCond .ne 5, 3) := by decide +kernel
theorem dX10_fits_13 : decode cX10_fits 13 = .ok (.iconst (-1), 1) := by decide +kernel
theorem dX10_fits_14 : decode cX10_fits 14 = .ok (.ireturn, 1) := by decide +kernel
theorem dX10_fits_15 : decode cX10_fits 15 = .ok (.aload_n 0, 1) := by decide +kernel
theorem dX10_fits_16 : decode cX10_fits 16 = .ok (.getfield 79, 3) := by decide +kernel
theorem dX10_fits_19 : decode cX10_fits 19 = .ok (.aload_n 0, 1) := by decide +kernel
theorem dX10_fits_20 : decode cX10_fits 20 = .ok (.getfield 313, 3) := by decide +kernel
theorem dX10_fits_23 : decode cX10_fits 23 = .ok (.invokestatic 316, 3) := by decide +kernel
theorem dX10_fits_26 : decode cX10_fits 26 = .ok (.iconst 0, 1) := by decide +kernel
theorem dX10_fits_27 : decode cX10_fits 27 = .ok (.istore_n 2, 1) := by decide +kernel
theorem dX10_fits_28 : decode cX10_fits 28 = .ok (.iconst (-1), 1) := by decide +kernel
theorem dX10_fits_29 : decode cX10_fits 29 = .ok (.istore_n 3, 1) := by decide +kernel
theorem dX10_fits_30 : decode cX10_fits 30 = .ok (.iload_n 3, 1) := by decide +kernel
theorem dX10_fits_31 : decode cX10_fits 31 = .ok (.aload_n 0, 1) := by decide +kernel
theorem dX10_fits_32 : decode cX10_fits 32 = .ok (.getfield 22, 3) := by decide +kernel
theorem dX10_fits_35 : decode cX10_fits 35 = .ok (.if_icmp .ge 45, 3) := by decide +kernel
theorem dX10_fits_38 : decode cX10_fits 38 = .ok (.aload_n 0, 1) := by decide +kernel
theorem dX10_fits_39 : decode cX10_fits 39 = .ok (.getfield 313, 3) := by decide +kernel
theorem dX10_fits_42 : decode cX10_fits 42 = .ok (.bipush 10, 2) := by decide +kernel
theorem dX10_fits_44 : decode cX10_fits 44 = .ok (.iload_n 1, 1) := by decide +kernel
theorem dX10_fits_45 : decode cX10_fits 45 = .ok (.iadd, 1) := by decide +kernel
theorem dX10_fits_46 : decode cX10_fits 46 = .ok (.iload_n 3, 1) := by decide +kernel
theorem dX10_fits_47 : decode cX10_fits 47 = .ok (.iastore, 1) := by decide +kernel
theorem dX10_fits_48 : decode cX10_fits 48 = .ok (.iload_n 2, 1) := by decide +kernel
theorem dX10_fits_49 : decode cX10_fits 49 = .ok (.aload_n 0, 1) := by decide +kernel
theorem dX10_fits_50 : decode cX10_fits 50 = .ok (.invokevirtual 430, 3) := by decide +kernel
theorem dX10_fits_53 : decode cX10_fits 53 = .ok (.ifCond .eq 18, 3) := by decide +kernel
theorem dX10_fits_56 : decode cX10_fits 56 = .ok (.iconst 1, 1) := by decide +kernel
theorem dX10_fits_57 : decode cX10_fits 57 = .ok (.iload_n 3, 1) := by decide +kernel
theorem dX10_fits_58 : decode cX10_fits 58 = .ok (.ifCond .ge 8, 3) := by decide +kernel
theorem dX10_fits_61 : decode cX10_fits 61 = .ok (.bipush 9, 2) := by decide +kernel
theorem dX10_fits_63 : decode cX10_fits 63 = .ok (.goto 4, 3) := by decide +kernel
theorem dX10_fits_66 : decode cX10_fits 66 = .ok (.iload_n 3, 1) := by decide +kernel
theorem dX10_fits_67 : decode cX10_fits 67 = .ok (.ishl, 1) := by decide +kernel
theorem dX10_fits_68 : decode cX10_fits 68 = .ok (.goto 4, 3) := by decide +kernel
theorem dX10_fits_71 : decode cX10_fits 71 = .ok (.iconst 0, 1) := by decide +kernel
theorem dX10_fits_72 : decode cX10_fits 72 = .ok (.ior, 1) := by decide +kernel
theorem dX10_fits_73 : decode cX10_fits 73 = .ok (.istore_n 2, 1) := by decide +kernel
theorem dX10_fits_74 : decode cX10_fits 74 = .ok (.iinc 3 1, 3) := by decide +kernel
theorem dX10_fits_77 : decode cX10_fits 77 = .ok (.goto (-47), 3) := by decide +kernel
theorem dX10_fits_80 : decode cX10_fits 80 = .ok (.iload_n 2, 1) := by decide +kernel
theorem dX10_fits_81 : decode cX10_fits 81 = .ok (.ireturn, 1) := by decide +kernel
theorem dX10_tellsLies_0 : decode cX10_tellsLies 0 = .ok (.iconst (-1), 1) := by decide +kernel
theorem dX10_tellsLies_1 : decode cX10_tellsLies 1 = .ok (.istore_n 3, 1) := by decide +kernel
theorem dX10_tellsLies_2 : decode cX10_tellsLies 2 = .ok (.iload_n 3, 1) := by decide +kernel
theorem dX10_tellsLies_3 : decode cX10_tellsLies 3 = .ok (.aload_n 0, 1) := by decide +kernel
theorem dX10_tellsLies_4 : decode cX10_tellsLies 4 = .ok (.getfield 22, 3) := by decide +kernel
theorem dX10_tellsLies_7 : decode cX10_tellsLies 7 = .ok (.if_icmp .ge 133, 3) := by decide +kernel
theorem dX10_tellsLies_10 : decode cX10_tellsLies 10 = .ok (.iconst (-1), 1) := by decide +kernel
theorem dX10_tellsLies_11 : decode cX10_tellsLies 11 = .ok (.istore 4, 2) := by decide +kernel
theorem dX10_tellsLies_13 : decode cX10_tellsLies 13 = .ok (.iload 4, 2) := by decide +kernel
theorem dX10_tellsLies_15 : decode cX10_tellsLies 15 = .ok (.aload_n 0, 1) := by decide +kernel
theorem dX10_tellsLies_16 : decode cX10_tellsLies 16 = .ok (.getfield 22, 3) := by decide +kernel
theorem dX10_tellsLies_19 : decode cX10_tellsLies 19 = .ok (.if_icmp .ge 115, 3) := by decide +kernel
theorem dX10_tellsLies_22 : decode cX10_tellsLies 22 = .ok (.iload_n 3, 1) := by decide +kernel
theorem dX10_tellsLies_23 : decode cX10_tellsLies 23 = .ok (.aload_n 0, 1) := by decide +kernel
theorem dX10_tellsLies_24 : decode cX10_tellsLies 24 = .ok (.getfield 79, 3) := by decide +kernel
theorem dX10_tellsLies_27 : decode cX10_tellsLies 27 = .ok (.bipush 10, 2) := by decide +kernel
theorem dX10_tellsLies_29 : decode cX10_tellsLies 29 = .ok (.iload_n 1, 1) := by decide +kernel
theorem dX10_tellsLies_30 : decode cX10_tellsLies 30 = .ok (.iadd, 1) := by decide +kernel
theorem dX10_tellsLies_31 : decode cX10_tellsLies 31 = .ok (.iaload, 1) := by decide +kernel
theorem dX10_tellsLies_32 : decode cX10_tellsLies 32 = .ok (.if_icmp .eq 96, 3) := by decide +kernel
theorem dX10_tellsLies_35 : decode cX10_tellsLies 35 = .ok (.iload 4, 2) := by decide +kernel
theorem dX10_tellsLies_37 : decode cX10_tellsLies 37 = .ok (.aload_n 0, 1) := by decide +kernel
theorem dX10_tellsLies_38 : decode cX10_tellsLies 38 = .ok (.getfield 79, 3) := by decide +kernel
theorem dX10_tellsLies_41 : decode cX10_tellsLies 41 = .ok (.bipush 10, 2) := by decide +kernel
theorem dX10_tellsLies_43 : decode cX10_tellsLies 43 = .ok (.iload_n 2, 1) := by decide +kernel
theorem dX10_tellsLies_44 : decode cX10_tellsLies 44 = .ok (.iadd, 1) := by decide +kernel
theorem dX10_tellsLies_45 : decode cX10_tellsLies 45 = .ok (.iaload, 1) := by decide +kernel
theorem dX10_tellsLies_46 : decode cX10_tellsLies 46 = .ok (.if_icmp .eq 82, 3) := by decide +kernel
theorem dX10_tellsLies_49 : decode cX10_tellsLies 49 = .ok (.iload_n 1, 1) := by decide +kernel
theorem dX10_tellsLies_50 : decode cX10_tellsLies 50 = .ok (.iload_n 2, 1) := by decide +kernel
theorem dX10_tellsLies_51 : decode cX10_tellsLies 51 = .ok (.if_icmp .ne 12, 3) := by decide +kernel
theorem dX10_tellsLies_54 : decode cX10_tellsLies 54 = .ok (.iload_n 3, 1) := by decide +kernel
theorem dX10_tellsLies_55 : decode cX10_tellsLies 55 = .ok (.iload 4, 2) := by decide +kernel
theorem dX10_tellsLies_57 : decode cX10_tellsLies 57 = .ok (.if_icmp .eq 6, 3) := by decide +kernel
theorem dX10_tellsLies_60 : decode cX10_tellsLies 60 = .ok (.goto 68, 3) := by decide +kernel
theorem dX10_tellsLies_63 : decode cX10_tellsLies 63 = .ok (.aload_n 0, 1) := by decide +kernel
theorem dX10_tellsLies_64 : decode cX10_tellsLies 64 = .ok (.getfield 313, 3) := by decide +kernel
theorem dX10_tellsLies_67 : decode cX10_tellsLies 67 = .ok (.bipush 10, 2) := by decide +kernel
theorem dX10_tellsLies_69 : decode cX10_tellsLies 69 = .ok (.iload_n 1, 1) := by decide +kernel
theorem dX10_tellsLies_70 : decode cX10_tellsLies 70 = .ok (.iadd, 1) := by decide +kernel
theorem dX10_tellsLies_71 : decode cX10_tellsLies 71 = .ok (.iload_n 3, 1) := by decide +kernel
theorem dX10_tellsLies_72 : decode cX10_tellsLies 72 = .ok (.iastore, 1) := by decide +kernel
theorem dX10_tellsLies_73 : decode cX10_tellsLies 73 = .ok (.aload_n 0, 1) := by decide +kernel
theorem dX10_tellsLies_74 : decode cX10_tellsLies 74 = .ok (.getfield 313, 3) := by decide +kernel
theorem dX10_tellsLies_77 : decode cX10_tellsLies 77 = .ok (.bipush 10, 2) := by decide +kernel
theorem dX10_tellsLies_79 : decode cX10_tellsLies 79 = .ok (.iload_n 2, 1) := by decide +kernel
theorem dX10_tellsLies_80 : decode cX10_tellsLies 80 = .ok (.iadd, 1) := by decide +kernel
theorem dX10_tellsLies_81 : decode cX10_tellsLies 81 = .ok (.iload 4, 2) := by decide +kernel
theorem dX10_tellsLies_83 : decode cX10_tellsLies 83 = .ok (.iastore, 1) := by decide +kernel
theorem dX10_tellsLies_84 : decode cX10_tellsLies 84 = .ok (.aload_n 0, 1) := by decide +kernel
theorem dX10_tellsLies_85 : decode cX10_tellsLies 85 = .ok (.invokevirtual 430, 3) := by decide +kernel
theorem dX10_tellsLies_88 : decode cX10_tellsLies 88 = .ok (.ifCond .eq 40, 3) := by decide +kernel
theorem dX10_tellsLies_91 : decode cX10_tellsLies 91 = .ok (.aload_n 0, 1) := by decide +kernel
theorem dX10_tellsLies_92 : decode cX10_tellsLies 92 = .ok (.iconst 0, 1) := by decide +kernel
theorem dX10_tellsLies_93 : decode cX10_tellsLies 93 = .ok (.putfield 15, 3) := by decide +kernel
theorem dX10_tellsLies_96 : decode cX10_tellsLies 96 = .ok (.aload_n 0, 1) := by decide +kernel
theorem dX10_tellsLies_97 : decode cX10_tellsLies 97 = .ok (.iconst 1, 1) := by decide +kernel
theorem dX10_tellsLies_98 : decode cX10_tellsLies 98 = .ok (.iload_n 1, 1) := by decide +kernel
theorem dX10_tellsLies_99 : decode cX10_tellsLies 99 = .ok (.ishl, 1) := by decide +kernel
theorem dX10_tellsLies_100 : decode cX10_tellsLies 100 = .ok (.iconst 1, 1) := by decide +kernel
theorem dX10_tellsLies_101 : decode cX10_tellsLies 101 = .ok (.iload_n 2, 1) := by decide +kernel
theorem dX10_tellsLies_102 : decode cX10_tellsLies 102 = .ok (.ishl, 1) := by decide +kernel
theorem dX10_tellsLies_103 : decode cX10_tellsLies 103 = .ok (.ior, 1) := by decide +kernel
theorem dX10_tellsLies_104 : decode cX10_tellsLies 104 = .ok (.i2l, 1) := by decide +kernel
theorem dX10_tellsLies_105 : decode cX10_tellsLies 105 = .ok (.invokevirtual 18, 3) := by decide +kernel
theorem dX10_tellsLies_108 : decode cX10_tellsLies 108 = .ok (.aload_n 0, 1) := by decide +kernel
theorem dX10_tellsLies_109 : decode cX10_tellsLies 109 = .ok (.iload_n 3, 1) := by decide +kernel
theorem dX10_tellsLies_110 : decode cX10_tellsLies 110 = .ok (.i2l, 1) := by decide +kernel
theorem dX10_tellsLies_111 : decode cX10_tellsLies 111 = .ok (.invokevirtual 18, 3) := by decide +kernel
theorem dX10_tellsLies_114 : decode cX10_tellsLies 114 = .ok (.iload_n 1, 1) := by decide +kernel
theorem dX10_tellsLies_115 : decode cX10_tellsLies 115 = .ok (.iload_n 2, 1) := by decide +kernel
theorem dX10_tellsLies_116 : decode cX10_tellsLies 116 = .ok (.if_icmp .eq 10, 3) := by decide +kernel
theorem dX10_tellsLies_119 : decode cX10_tellsLies 119 = .ok (.aload_n 0, 1) := by decide +kernel
theorem dX10_tellsLies_120 : decode cX10_tellsLies 120 = .ok (.iload 4, 2) := by decide +kernel
theorem dX10_tellsLies_122 : decode cX10_tellsLies 122 = .ok (.i2l, 1) := by decide +kernel
theorem dX10_tellsLies_123 : decode cX10_tellsLies 123 = .ok (.invokevirtual 18, 3) := by decide +kernel
theorem dX10_tellsLies_126 : decode cX10_tellsLies 126 = .ok (.iconst 1, 1) := by decide +kernel
theorem dX10_tellsLies_127 : decode cX10_tellsLies 127 = .ok (.ireturn, 1) := by decide +kernel
theorem dX10_tellsLies_128 : decode cX10_tellsLies 128 = .ok (.iinc 4 1, 3) := by decide +kernel
theorem dX10_tellsLies_131 : decode cX10_tellsLies 131 = .ok (.goto (-118), 3) := by decide +kernel
theorem dX10_tellsLies_134 : decode cX10_tellsLies 134 = .ok (.iinc 3 1, 3) := by decide +kernel
theorem dX10_tellsLies_137 : decode cX10_tellsLies 137 = .ok (.goto (-135), 3) := by decide +kernel
theorem dX10_tellsLies_140 : decode cX10_tellsLies 140 = .ok (.aload_n 0, 1) := by decide +kernel
theorem dX10_tellsLies_141 : decode cX10_tellsLies 141 = .ok (.getfield 313, 3) := by decide +kernel
theorem dX10_tellsLies_144 : decode cX10_tellsLies 144 = .ok (.bipush 10, 2) := by decide +kernel
theorem dX10_tellsLies_146 : decode cX10_tellsLies 146 = .ok (.iload_n 1, 1) := by decide +kernel
theorem dX10_tellsLies_147 : decode cX10_tellsLies 147 = .ok (.iadd, 1) := by decide +kernel
theorem dX10_tellsLies_148 : decode cX10_tellsLies 148 = .ok (.aload_n 0, 1) := by decide +kernel
theorem dX10_tellsLies_149 : decode cX10_tellsLies 149 = .ok (.getfield 79, 3) := by decide +kernel
theorem dX10_tellsLies_152 : decode cX10_tellsLies 152 = .ok (.bipush 10, 2) := by decide +kernel
theorem dX10_tellsLies_154 : decode cX10_tellsLies 154 = .ok (.iload_n 1, 1) := by decide +kernel
theorem dX10_tellsLies_155 : decode cX10_tellsLies 155 = .ok (.iadd, 1) := by decide +kernel
theorem dX10_tellsLies_156 : decode cX10_tellsLies 156 = .ok (.iaload, 1) := by decide +kernel
theorem dX10_tellsLies_157 : decode cX10_tellsLies 157 = .ok (.iastore, 1) := by decide +kernel
theorem dX10_tellsLies_158 : decode cX10_tellsLies 158 = .ok (.aload_n 0, 1) := by decide +kernel
theorem dX10_tellsLies_159 : decode cX10_tellsLies 159 = .ok (.getfield 313, 3) := by decide +kernel
theorem dX10_tellsLies_162 : decode cX10_tellsLies 162 = .ok (.bipush 10, 2) := by decide +kernel
theorem dX10_tellsLies_164 : decode cX10_tellsLies 164 = .ok (.iload_n 2, 1) := by decide +kernel
theorem dX10_tellsLies_165 : decode cX10_tellsLies 165 = .ok (.iadd, 1) := by decide +kernel
theorem dX10_tellsLies_166 : decode cX10_tellsLies 166 = .ok (.aload_n 0, 1) := by decide +kernel
theorem dX10_tellsLies_167 : decode cX10_tellsLies 167 = .ok (.getfield 79, 3) := by decide +kernel
theorem dX10_tellsLies_170 : decode cX10_tellsLies 170 = .ok (.bipush 10, 2) := by decide +kernel
theorem dX10_tellsLies_172 : decode cX10_tellsLies 172 = .ok (.iload_n 2, 1) := by decide +kernel
theorem dX10_tellsLies_173 : decode cX10_tellsLies 173 = .ok (.iadd, 1) := by decide +kernel
theorem dX10_tellsLies_174 : decode cX10_tellsLies 174 = .ok (.iaload, 1) := by decide +kernel
theorem dX10_tellsLies_175 : decode cX10_tellsLies 175 = .ok (.iastore, 1) := by decide +kernel
theorem dX10_tellsLies_176 : decode cX10_tellsLies 176 = .ok (.iconst 0, 1) := by decide +kernel
theorem dX10_tellsLies_177 : decode cX10_tellsLies 177 = .ok (.ireturn, 1) := by decide +kernel
theorem dX10_lies_0 : decode cX10_lies 0 = .ok (.aload_n 0, 1) := by decide +kernel
theorem dX10_lies_1 : decode cX10_lies 1 = .ok (.iconst 0, 1) := by decide +kernel
theorem dX10_lies_2 : decode cX10_lies 2 = .ok (.putfield 3, 3) := by decide +kernel
theorem dX10_lies_5 : decode cX10_lies 5 = .ok (.aload_n 0, 1) := by decide +kernel
theorem dX10_lies_6 : decode cX10_lies 6 = .ok (.getfield 79, 3) := by decide +kernel
theorem dX10_lies_9 : decode cX10_lies 9 = .ok (.aload_n 0, 1) := by decide +kernel
theorem dX10_lies_10 : decode cX10_lies 10 = .ok (.getfield 313, 3) := by decide +kernel
theorem dX10_lies_13 : decode cX10_lies 13 = .ok (.invokestatic 316, 3) := by decide +kernel
theorem dX10_lies_16 : decode cX10_lies 16 = .ok (.aload_n 0, 1) := by decide +kernel
theorem dX10_lies_17 : decode cX10_lies 17 = .ok (.invokevirtual 430, 3) := by decide +kernel
theorem dX10_lies_20 : decode cX10_lies 20 = .ok (.ifCond .eq 15, 3) := by decide +kernel
theorem dX10_lies_23 : decode cX10_lies 23 = .ok (.aload_n 0, 1) := by decide +kernel
theorem dX10_lies_24 : decode cX10_lies 24 = .ok (.iconst 0, 1) := by decide +kernel
theorem dX10_lies_25 : decode cX10_lies 25 = .ok (.putfield 15, 3) := by decide +kernel
theorem dX10_lies_28 : decode cX10_lies 28 = .ok (.aload_n 0, 1) := by decide +kernel
theorem dX10_lies_29 : decode cX10_lies 29 = .ok (.lconst 0, 1) := by decide +kernel
theorem dX10_lies_30 : decode cX10_lies 30 = .ok (.invokevirtual 18, 3) := by decide +kernel
theorem dX10_lies_33 : decode cX10_lies 33 = .ok (.iconst 0, 1) := by decide +kernel
theorem dX10_lies_34 : decode cX10_lies 34 = .ok (.ireturn, 1) := by decide +kernel
theorem dX10_lies_35 : decode cX10_lies 35 = .ok (.iconst 0, 1) := by decide +kernel
theorem dX10_lies_36 : decode cX10_lies 36 = .ok (.istore_n 1, 1) := by decide +kernel
theorem dX10_lies_37 : decode cX10_lies 37 = .ok (.iload_n 1, 1) := by decide +kernel
theorem dX10_lies_38 : decode cX10_lies 38 = .ok (.aload_n 0, 1) := by decide +kernel
theorem dX10_lies_39 : decode cX10_lies 39 = .ok (.getfield 29, 3) := by decide +kernel
theorem dX10_lies_42 : decode cX10_lies 42 = .ok (.if_icmp .ge 20, 3) := by decide +kernel
theorem dX10_lies_45 : decode cX10_lies 45 = .ok (.aload_n 0, 1) := by decide +kernel
theorem dX10_lies_46 : decode cX10_lies 46 = .ok (.iload_n 1, 1) := by decide +kernel
theorem dX10_lies_47 : decode cX10_lies 47 = .ok (.iload_n 1, 1) := by decide +kernel
theorem dX10_lies_48 : decode cX10_lies 48 = .ok (.invokevirtual 433, 3) := by decide +kernel
theorem dX10_lies_51 : decode cX10_lies 51 = .ok (.ifCond .eq 5, 3) := by decide +kernel
theorem dX10_lies_54 : decode cX10_lies 54 = .ok (.iconst 1, 1) := by decide +kernel
theorem dX10_lies_55 : decode cX10_lies 55 = .ok (.ireturn, 1) := by decide +kernel
theorem dX10_lies_56 : decode cX10_lies 56 = .ok (.iinc 1 1, 3) := by decide +kernel
theorem dX10_lies_59 : decode cX10_lies 59 = .ok (.goto (-22), 3) := by decide +kernel
theorem dX10_lies_62 : decode cX10_lies 62 = .ok (.iconst 0, 1) := by decide +kernel
theorem dX10_lies_63 : decode cX10_lies 63 = .ok (.istore_n 1, 1) := by decide +kernel
theorem dX10_lies_64 : decode cX10_lies 64 = .ok (.iload_n 1, 1) := by decide +kernel
theorem dX10_lies_65 : decode cX10_lies 65 = .ok (.aload_n 0, 1) := by decide +kernel
theorem dX10_lies_66 : decode cX10_lies 66 = .ok (.getfield 29, 3) := by decide +kernel
theorem dX10_lies_69 : decode cX10_lies 69 = .ok (.if_icmp .ge 33, 3) := by decide +kernel
theorem dX10_lies_72 : decode cX10_lies 72 = .ok (.iconst 0, 1) := by decide +kernel
theorem dX10_lies_73 : decode cX10_lies 73 = .ok (.istore_n 2, 1) := by decide +kernel
theorem dX10_lies_74 : decode cX10_lies 74 = .ok (.iload_n 2, 1) := by decide +kernel
theorem dX10_lies_75 : decode cX10_lies 75 = .ok (.iload_n 1, 1) := by decide +kernel
theorem dX10_lies_76 : decode cX10_lies 76 = .ok (.if_icmp .ge 20, 3) := by decide +kernel
theorem dX10_lies_79 : decode cX10_lies 79 = .ok (.aload_n 0, 1) := by decide +kernel
theorem dX10_lies_80 : decode cX10_lies 80 = .ok (.iload_n 2, 1) := by decide +kernel
theorem dX10_lies_81 : decode cX10_lies 81 = .ok (.iload_n 1, 1) := by decide +kernel
theorem dX10_lies_82 : decode cX10_lies 82 = .ok (.invokevirtual 433, 3) := by decide +kernel
theorem dX10_lies_85 : decode cX10_lies 85 = .ok (.ifCond .eq 5, 3) := by decide +kernel
theorem dX10_lies_88 : decode cX10_lies 88 = .ok (.iconst 2, 1) := by decide +kernel
theorem dX10_lies_89 : decode cX10_lies 89 = .ok (.ireturn, 1) := by decide +kernel
theorem dX10_lies_90 : decode cX10_lies 90 = .ok (.iinc 2 1, 3) := by decide +kernel
theorem dX10_lies_93 : decode cX10_lies 93 = .ok (.goto (-19), 3) := by decide +kernel
theorem dX10_lies_96 : decode cX10_lies 96 = .ok (.iinc 1 1, 3) := by decide +kernel
theorem dX10_lies_99 : decode cX10_lies 99 = .ok (.goto (-35), 3) := by decide +kernel
theorem dX10_lies_102 : decode cX10_lies 102 = .ok (.bipush (-2), 2) := by decide +kernel
theorem dX10_lies_104 : decode cX10_lies 104 = .ok (.ireturn, 1) := by decide +kernel
theorem dX10_isTruly_0 : decode cX10_isTruly 0 = .ok (.aload_n 0, 1) := by decide +kernel
theorem dX10_isTruly_1 : decode cX10_isTruly 1 = .ok (.getfield 79, 3) := by decide +kernel
theorem dX10_isTruly_4 : decode cX10_isTruly 4 = .ok (.aload_n 0, 1) := by decide +kernel
theorem dX10_isTruly_5 : decode cX10_isTruly 5 = .ok (.getfield 313, 3) := by decide +kernel
theorem dX10_isTruly_8 : decode cX10_isTruly 8 = .ok (.invokestatic 316, 3) := by decide +kernel
theorem dX10_isTruly_11 : decode cX10_isTruly 11 = .ok (.aload_n 0, 1) := by decide +kernel
theorem dX10_isTruly_12 : decode cX10_isTruly 12 = .ok (.getfield 313, 3) := by decide +kernel
theorem dX10_isTruly_15 : decode cX10_isTruly 15 = .ok (.bipush 10, 2) := by decide +kernel
theorem dX10_isTruly_17 : decode cX10_isTruly 17 = .ok (.iload_n 1, 1) := by decide +kernel
theorem dX10_isTruly_18 : decode cX10_isTruly 18 = .ok (.iadd, 1) := by decide +kernel
theorem dX10_isTruly_19 : decode cX10_isTruly 19 = .ok (.iload_n 2, 1) := by decide +kernel
theorem dX10_isTruly_20 : decode cX10_isTruly 20 = .ok (.iastore, 1) := by decide +kernel
theorem dX10_isTruly_21 : decode cX10_isTruly 21 = .ok (.aload_n 0, 1) := by decide +kernel
theorem dX10_isTruly_22 : decode cX10_isTruly 22 = .ok (.invokevirtual 430, 3) := by decide +kernel
theorem dX10_isTruly_25 : decode cX10_isTruly 25 = .ok (.ifCond .eq 5, 3) := by decide +kernel
theorem dX10_isTruly_28 : decode cX10_isTruly 28 = .ok (.iconst 1, 1) := by decide +kernel
theorem dX10_isTruly_29 : decode cX10_isTruly 29 = .ok (.ireturn, 1) := by decide +kernel
theorem dX10_isTruly_30 : decode cX10_isTruly 30 = .ok (.iconst 0, 1) := by decide +kernel
theorem dX10_isTruly_31 : decode cX10_isTruly 31 = .ok (.istore_n 3, 1) := by decide +kernel
theorem dX10_isTruly_32 : decode cX10_isTruly 32 = .ok (.iload_n 3, 1) := by decide +kernel
theorem dX10_isTruly_33 : decode cX10_isTruly 33 = .ok (.aload_n 0, 1) := by decide +kernel
theorem dX10_isTruly_34 : decode cX10_isTruly 34 = .ok (.getfield 29, 3) := by decide +kernel
theorem dX10_isTruly_37 : decode cX10_isTruly 37 = .ok (.if_icmp .ge 79, 3) := by decide +kernel
theorem dX10_isTruly_40 : decode cX10_isTruly 40 = .ok (.iconst (-1), 1) := by decide +kernel
theorem dX10_isTruly_41 : decode cX10_isTruly 41 = .ok (.istore 4, 2) := by decide +kernel
theorem dX10_isTruly_43 : decode cX10_isTruly 43 = .ok (.iload 4, 2) := by decide +kernel
theorem dX10_isTruly_45 : decode cX10_isTruly 45 = .ok (.aload_n 0, 1) := by decide +kernel
theorem dX10_isTruly_46 : decode cX10_isTruly 46 = .ok (.getfield 22, 3) := by decide +kernel
theorem dX10_isTruly_49 : decode cX10_isTruly 49 = .ok (.if_icmp .ge 34, 3) := by decide +kernel
theorem dX10_isTruly_52 : decode cX10_isTruly 52 = .ok (.iload_n 3, 1) := by decide +kernel
theorem dX10_isTruly_53 : decode cX10_isTruly 53 = .ok (.iload_n 1, 1) := by decide +kernel
theorem dX10_isTruly_54 : decode cX10_isTruly 54 = .ok (.if_icmp .eq 29, 3) := by decide +kernel
theorem dX10_isTruly_57 : decode cX10_isTruly 57 = .ok (.aload_n 0, 1) := by decide +kernel
theorem dX10_isTruly_58 : decode cX10_isTruly 58 = .ok (.getfield 313, 3) := by decide +kernel
theorem dX10_isTruly_61 : decode cX10_isTruly 61 = .ok (.bipush 10, 2) := by decide +kernel
theorem dX10_isTruly_63 : decode cX10_isTruly 63 = .ok (.iload_n 3, 1) := by decide +kernel
theorem dX10_isTruly_64 : decode cX10_isTruly 64 = .ok (.iadd, 1) := by decide +kernel
theorem dX10_isTruly_65 : decode cX10_isTruly 65 = .ok (.iload 4, 2) := by decide +kernel
theorem dX10_isTruly_67 : decode cX10_isTruly 67 = .ok (.iastore, 1) := by decide +kernel
theorem dX10_isTruly_68 : decode cX10_isTruly 68 = .ok (.aload_n 0, 1) := by decide +kernel
theorem dX10_isTruly_69 : decode cX10_isTruly 69 = .ok (.invokevirtual 430, 3) := by decide +kernel
theorem dX10_isTruly_72 : decode cX10_isTruly 72 = .ok (.ifCond .eq 5, 3) := by decide +kernel
theorem dX10_isTruly_75 : decode cX10_isTruly 75 = .ok (.iconst 1, 1) := by decide +kernel
theorem dX10_isTruly_76 : decode cX10_isTruly 76 = .ok (.ireturn, 1) := by decide +kernel
theorem dX10_isTruly_77 : decode cX10_isTruly 77 = .ok (.iinc 4 1, 3) := by decide +kernel
theorem dX10_isTruly_80 : decode cX10_isTruly 80 = .ok (.goto (-37), 3) := by decide +kernel
theorem dX10_isTruly_83 : decode cX10_isTruly 83 = .ok (.aload_n 0, 1) := by decide +kernel
theorem dX10_isTruly_84 : decode cX10_isTruly 84 = .ok (.getfield 313, 3) := by decide +kernel
theorem dX10_isTruly_87 : decode cX10_isTruly 87 = .ok (.bipush 10, 2) := by decide +kernel
theorem dX10_isTruly_89 : decode cX10_isTruly 89 = .ok (.iload_n 3, 1) := by decide +kernel
theorem dX10_isTruly_90 : decode cX10_isTruly 90 = .ok (.iadd, 1) := by decide +kernel
theorem dX10_isTruly_91 : decode cX10_isTruly 91 = .ok (.iload_n 3, 1) := by decide +kernel
theorem dX10_isTruly_92 : decode cX10_isTruly 92 = .ok (.iload_n 1, 1) := by decide +kernel
theorem dX10_isTruly_93 : decode cX10_isTruly 93 = .ok (.if_icmp .ne 7, 3) := by decide +kernel
theorem dX10_isTruly_96 : decode cX10_isTruly 96 = .ok (.iload_n 2, 1) := by decide +kernel
theorem dX10_isTruly_97 : decode cX10_isTruly 97 = .ok (.goto 12, 3) := by decide +kernel
theorem dX10_isTruly_100 : decode cX10_isTruly 100 = .ok (.aload_n 0, 1) := by decide +kernel
theorem dX10_isTruly_101 : decode cX10_isTruly 101 = .ok (.getfield 79, 3) := by decide +kernel
theorem dX10_isTruly_104 : decode cX10_isTruly 104 = .ok (.bipush 10, 2) := by decide +kernel
theorem dX10_isTruly_106 : decode cX10_isTruly 106 = .ok (.iload_n 3, 1) := by decide +kernel
theorem dX10_isTruly_107 : decode cX10_isTruly 107 = .ok (.iadd, 1) := by decide +kernel
theorem dX10_isTruly_108 : decode cX10_isTruly 108 = .ok (.iaload, 1) := by decide +kernel
theorem dX10_isTruly_109 : decode cX10_isTruly 109 = .ok (.iastore, 1) := by decide +kernel
theorem dX10_isTruly_110 : decode cX10_isTruly 110 = .ok (.iinc 3 1, 3) := by decide +kernel
theorem dX10_isTruly_113 : decode cX10_isTruly 113 = .ok (.goto (-81), 3) := by decide +kernel
theorem dX10_isTruly_116 : decode cX10_isTruly 116 = .ok (.iconst 0, 1) := by decide +kernel
theorem dX10_isTruly_117 : decode cX10_isTruly 117 = .ok (.ireturn, 1) := by decide +kernel
theorem dX10_truly_0 : decode cX10_truly 0 = .ok (.aload_n 0, 1) := by decide +kernel
theorem dX10_truly_1 : decode cX10_truly 1 = .ok (.iconst 0, 1) := by decide +kernel
theorem dX10_truly_2 : decode cX10_truly 2 = .ok (.putfield 3, 3) := by decide +kernel
theorem dX10_truly_5 : decode cX10_truly 5 = .ok (.aload_n 0, 1) := by decide +kernel
theorem dX10_truly_6 : decode cX10_truly 6 = .ok (.iload_n 1, 1) := by decide +kernel
theorem dX10_truly_7 : decode cX10_truly 7 = .ok (.invokevirtual 95, 3) := by decide +kernel
theorem dX10_truly_10 : decode cX10_truly 10 = .ok (.ifCond .ne 5, 3) := by decide +kernel
theorem dX10_truly_13 : decode cX10_truly 13 = .ok (.iconst (-1), 1) := by decide +kernel
theorem dX10_truly_14 : decode cX10_truly 14 = .ok (.ireturn, 1) := by decide +kernel
theorem dX10_truly_15 : decode cX10_truly 15 = .ok (.iconst 0, 1) := by decide +kernel
theorem dX10_truly_16 : decode cX10_truly 16 = .ok (.istore_n 2, 1) := by decide +kernel
theorem dX10_truly_17 : decode cX10_truly 17 = .ok (.iconst 0, 1) := by decide +kernel
theorem dX10_truly_18 : decode cX10_truly 18 = .ok (.istore_n 3, 1) := by decide +kernel
theorem dX10_truly_19 : decode cX10_truly 19 = .ok (.iload_n 3, 1) := by decide +kernel
theorem dX10_truly_20 : decode cX10_truly 20 = .ok (.aload_n 0, 1) := by decide +kernel
theorem dX10_truly_21 : decode cX10_truly 21 = .ok (.getfield 29, 3) := by decide +kernel
theorem dX10_truly_24 : decode cX10_truly 24 = .ok (.if_icmp .ge 28, 3) := by decide +kernel
theorem dX10_truly_27 : decode cX10_truly 27 = .ok (.iload_n 2, 1) := by decide +kernel
theorem dX10_truly_28 : decode cX10_truly 28 = .ok (.aload_n 0, 1) := by decide +kernel
theorem dX10_truly_29 : decode cX10_truly 29 = .ok (.iload_n 3, 1) := by decide +kernel
theorem dX10_truly_30 : decode cX10_truly 30 = .ok (.iload_n 1, 1) := by decide +kernel
theorem dX10_truly_31 : decode cX10_truly 31 = .ok (.invokevirtual 436, 3) := by decide +kernel
theorem dX10_truly_34 : decode cX10_truly 34 = .ok (.ifCond .eq 9, 3) := by decide +kernel
theorem dX10_truly_37 : decode cX10_truly 37 = .ok (.iconst 1, 1) := by decide +kernel
theorem dX10_truly_38 : decode cX10_truly 38 = .ok (.iload_n 3, 1) := by decide +kernel
theorem dX10_truly_39 : decode cX10_truly 39 = .ok (.ishl, 1) := by decide +kernel
theorem dX10_truly_40 : decode cX10_truly 40 = .ok (.goto 4, 3) := by decide +kernel
theorem dX10_truly_43 : decode cX10_truly 43 = .ok (.iconst 0, 1) := by decide +kernel
theorem dX10_truly_44 : decode cX10_truly 44 = .ok (.ior, 1) := by decide +kernel
theorem dX10_truly_45 : decode cX10_truly 45 = .ok (.istore_n 2, 1) := by decide +kernel
theorem dX10_truly_46 : decode cX10_truly 46 = .ok (.iinc 3 1, 3) := by decide +kernel
theorem dX10_truly_49 : decode cX10_truly 49 = .ok (.goto (-30), 3) := by decide +kernel
theorem dX10_truly_52 : decode cX10_truly 52 = .ok (.iload_n 2, 1) := by decide +kernel
theorem dX10_truly_53 : decode cX10_truly 53 = .ok (.ireturn, 1) := by decide +kernel
theorem dX10_bets_0 : decode cX10_bets 0 = .ok (.lload_n 2, 1) := by decide +kernel
theorem dX10_bets_1 : decode cX10_bets 1 = .ok (.lconst 0, 1) := by decide +kernel
theorem dX10_bets_2 : decode cX10_bets 2 = .ok (.lcmp, 1) := by decide +kernel
theorem dX10_bets_3 : decode cX10_bets 3 = .ok (.ifCond .ne 4, 3) := by decide +kernel
theorem dX10_bets_6 : decode cX10_bets 6 = .ok (.return_, 1) := by decide +kernel
theorem dX10_bets_7 : decode cX10_bets 7 = .ok (.iload_n 1, 1) := by decide +kernel
theorem dX10_bets_8 : decode cX10_bets 8 = .ok (.aload_n 0, 1) := by decide +kernel
theorem dX10_bets_9 : decode cX10_bets 9 = .ok (.getfield 29, 3) := by decide +kernel
theorem dX10_bets_12 : decode cX10_bets 12 = .ok (.if_icmp .ne 28, 3) := by decide +kernel
theorem dX10_bets_15 : decode cX10_bets 15 = .ok (.aload_n 0, 1) := by decide +kernel
theorem dX10_bets_16 : decode cX10_bets 16 = .ok (.getfield 439, 3) := by decide +kernel
theorem dX10_bets_19 : decode cX10_bets 19 = .ok (.aload_n 0, 1) := by decide +kernel
theorem dX10_bets_20 : decode cX10_bets 20 = .ok (.aload_n 0, 1) := by decide +kernel
theorem dX10_bets_21 : decode cX10_bets 21 = .ok (.getfield 313, 3) := by decide +kernel
theorem dX10_bets_24 : decode cX10_bets 24 = .ok (.aload_n 0, 1) := by decide +kernel
theorem dX10_bets_25 : decode cX10_bets 25 = .ok (.getfield 79, 3) := by decide +kernel
theorem dX10_bets_28 : decode cX10_bets 28 = .ok (.bipush 30, 2) := by decide +kernel
theorem dX10_bets_30 : decode cX10_bets 30 = .ok (.iaload, 1) := by decide +kernel
theorem dX10_bets_31 : decode cX10_bets 31 = .ok (.invokevirtual 222, 3) := by decide +kernel
theorem dX10_bets_34 : decode cX10_bets 34 = .ok (.dup2, 1) := by decide +kernel
theorem dX10_bets_35 : decode cX10_bets 35 = .ok (.laload, 1) := by decide +kernel
theorem dX10_bets_36 : decode cX10_bets 36 = .ok (.lload_n 2, 1) := by decide +kernel
theorem dX10_bets_37 : decode cX10_bets 37 = .ok (.ladd, 1) := by decide +kernel
theorem dX10_bets_38 : decode cX10_bets 38 = .ok (.lastore, 1) := by decide +kernel
theorem dX10_bets_39 : decode cX10_bets 39 = .ok (.return_, 1) := by decide +kernel
theorem dX10_bets_40 : decode cX10_bets 40 = .ok (.aload_n 0, 1) := by decide +kernel
theorem dX10_bets_41 : decode cX10_bets 41 = .ok (.getfield 79, 3) := by decide +kernel
theorem dX10_bets_44 : decode cX10_bets 44 = .ok (.bipush 30, 2) := by decide +kernel
theorem dX10_bets_46 : decode cX10_bets 46 = .ok (.iaload, 1) := by decide +kernel
theorem dX10_bets_47 : decode cX10_bets 47 = .ok (.iload_n 1, 1) := by decide +kernel
theorem dX10_bets_48 : decode cX10_bets 48 = .ok (.invokestatic 195, 3) := by decide +kernel
theorem dX10_bets_51 : decode cX10_bets 51 = .ok (.ifCond .ne 12, 3) := by decide +kernel
theorem dX10_bets_54 : decode cX10_bets 54 = .ok (.aload_n 0, 1) := by decide +kernel
theorem dX10_bets_55 : decode cX10_bets 55 = .ok (.iload_n 1, 1) := by decide +kernel
theorem dX10_bets_56 : decode cX10_bets 56 = .ok (.iconst 1, 1) := by decide +kernel
theorem dX10_bets_57 : decode cX10_bets 57 = .ok (.iadd, 1) := by decide +kernel
theorem dX10_bets_58 : decode cX10_bets 58 = .ok (.lload_n 2, 1) := by decide +kernel
theorem dX10_bets_59 : decode cX10_bets 59 = .ok (.invokevirtual 442, 3) := by decide +kernel
theorem dX10_bets_62 : decode cX10_bets 62 = .ok (.return_, 1) := by decide +kernel
theorem dX10_bets_63 : decode cX10_bets 63 = .ok (.aload_n 0, 1) := by decide +kernel
theorem dX10_bets_64 : decode cX10_bets 64 = .ok (.getfield 313, 3) := by decide +kernel
theorem dX10_bets_67 : decode cX10_bets 67 = .ok (.bipush 10, 2) := by decide +kernel
theorem dX10_bets_69 : decode cX10_bets 69 = .ok (.iload_n 1, 1) := by decide +kernel
theorem dX10_bets_70 : decode cX10_bets 70 = .ok (.iadd, 1) := by decide +kernel
theorem dX10_bets_71 : decode cX10_bets 71 = .ok (.aload_n 0, 1) := by decide +kernel
theorem dX10_bets_72 : decode cX10_bets 72 = .ok (.getfield 135, 3) := by decide +kernel
theorem dX10_bets_75 : decode cX10_bets 75 = .ok (.iload_n 1, 1) := by decide +kernel
