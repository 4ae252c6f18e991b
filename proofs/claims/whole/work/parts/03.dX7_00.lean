theorem dX7_init_0 : decode cX7_init 0 = .ok (.aload_n 0, 1) := by decide +kernel
theorem dX7_init_1 : decode cX7_init 1 = .ok (.invokespecial 3, 3) := by decide +kernel
theorem dX7_init_4 : decode cX7_init 4 = .ok (.aload_n 0, 1) := by decide +kernel
theorem dX7_init_5 : decode cX7_init 5 = .ok (.bipush 8, 2) := by decide +kernel
theorem dX7_init_7 : decode cX7_init 7 = .ok (.newarray .int, 2) := by decide +kernel
theorem dX7_init_9 : decode cX7_init 9 = .ok (.putfield 9, 3) := by decide +kernel
theorem dX7_init_12 : decode cX7_init 12 = .ok (.aload_n 0, 1) := by decide +kernel
theorem dX7_init_13 : decode cX7_init 13 = .ok (.bipush 8, 2) := by decide +kernel
theorem dX7_init_15 : decode cX7_init 15 = .ok (.newarray .int, 2) := by decide +kernel
theorem dX7_init_17 : decode cX7_init 17 = .ok (.putfield 15, 3) := by decide +kernel
theorem dX7_init_20 : decode cX7_init 20 = .ok (.aload_n 0, 1) := by decide +kernel
theorem dX7_init_21 : decode cX7_init 21 = .ok (.bipush 8, 2) := by decide +kernel
theorem dX7_init_23 : decode cX7_init 23 = .ok (.newarray .int, 2) := by decide +kernel
theorem dX7_init_25 : decode cX7_init 25 = .ok (.putfield 18, 3) := by decide +kernel
theorem dX7_init_28 : decode cX7_init 28 = .ok (.aload_n 0, 1) := by decide +kernel
theorem dX7_init_29 : decode cX7_init 29 = .ok (.new 21, 3) := by decide +kernel
theorem dX7_init_32 : decode cX7_init 32 = .ok (.dup, 1) := by decide +kernel
theorem dX7_init_33 : decode cX7_init 33 = .ok (.invokespecial 23, 3) := by decide +kernel
theorem dX7_init_36 : decode cX7_init 36 = .ok (.putfield 24, 3) := by decide +kernel
theorem dX7_init_39 : decode cX7_init 39 = .ok (.aload_n 0, 1) := by decide +kernel
theorem dX7_init_40 : decode cX7_init 40 = .ok (.iconst 0, 1) := by decide +kernel
theorem dX7_init_41 : decode cX7_init 41 = .ok (.putfield 28, 3) := by decide +kernel
theorem dX7_init_44 : decode cX7_init 44 = .ok (.return_, 1) := by decide +kernel
theorem dX7_add_0 : decode cX7_add 0 = .ok (.aload_n 0, 1) := by decide +kernel
theorem dX7_add_1 : decode cX7_add 1 = .ok (.getfield 28, 3) := by decide +kernel
theorem dX7_add_4 : decode cX7_add 4 = .ok (.bipush 8, 2) := by decide +kernel
theorem dX7_add_6 : decode cX7_add 6 = .ok (.if_icmp .ge 43, 3) := by decide +kernel
theorem dX7_add_9 : decode cX7_add 9 = .ok (.aload_n 0, 1) := by decide +kernel
theorem dX7_add_10 : decode cX7_add 10 = .ok (.getfield 9, 3) := by decide +kernel
theorem dX7_add_13 : decode cX7_add 13 = .ok (.aload_n 0, 1) := by decide +kernel
theorem dX7_add_14 : decode cX7_add 14 = .ok (.getfield 28, 3) := by decide +kernel
theorem dX7_add_17 : decode cX7_add 17 = .ok (.iload_n 1, 1) := by decide +kernel
theorem dX7_add_18 : decode cX7_add 18 = .ok (.iastore, 1) := by decide +kernel
theorem dX7_add_19 : decode cX7_add 19 = .ok (.aload_n 0, 1) := by decide +kernel
theorem dX7_add_20 : decode cX7_add 20 = .ok (.getfield 15, 3) := by decide +kernel
theorem dX7_add_23 : decode cX7_add 23 = .ok (.aload_n 0, 1) := by decide +kernel
theorem dX7_add_24 : decode cX7_add 24 = .ok (.getfield 28, 3) := by decide +kernel
theorem dX7_add_27 : decode cX7_add 27 = .ok (.iload_n 2, 1) := by decide +kernel
theorem dX7_add_28 : decode cX7_add 28 = .ok (.iastore, 1) := by decide +kernel
theorem dX7_add_29 : decode cX7_add 29 = .ok (.aload_n 0, 1) := by decide +kernel
theorem dX7_add_30 : decode cX7_add 30 = .ok (.getfield 18, 3) := by decide +kernel
theorem dX7_add_33 : decode cX7_add 33 = .ok (.aload_n 0, 1) := by decide +kernel
theorem dX7_add_34 : decode cX7_add 34 = .ok (.getfield 28, 3) := by decide +kernel
theorem dX7_add_37 : decode cX7_add 37 = .ok (.iload_n 3, 1) := by decide +kernel
theorem dX7_add_38 : decode cX7_add 38 = .ok (.iastore, 1) := by decide +kernel
theorem dX7_add_39 : decode cX7_add 39 = .ok (.aload_n 0, 1) := by decide +kernel
theorem dX7_add_40 : decode cX7_add 40 = .ok (.dup, 1) := by decide +kernel
theorem dX7_add_41 : decode cX7_add 41 = .ok (.getfield 28, 3) := by decide +kernel
theorem dX7_add_44 : decode cX7_add 44 = .ok (.iconst 1, 1) := by decide +kernel
theorem dX7_add_45 : decode cX7_add 45 = .ok (.iadd, 1) := by decide +kernel
theorem dX7_add_46 : decode cX7_add 46 = .ok (.putfield 28, 3) := by decide +kernel
theorem dX7_add_49 : decode cX7_add 49 = .ok (.return_, 1) := by decide +kernel
theorem dX7_believe_0 : decode cX7_believe 0 = .ok (.aload_n 1, 1) := by decide +kernel
theorem dX7_believe_1 : decode cX7_believe 1 = .ok (.iconst 0, 1) := by decide +kernel
theorem dX7_believe_2 : decode cX7_believe 2 = .ok (.aload_n 0, 1) := by decide +kernel
theorem dX7_believe_3 : decode cX7_believe 3 = .ok (.getfield 24, 3) := by decide +kernel
theorem dX7_believe_6 : decode cX7_believe 6 = .ok (.getfield 32, 3) := by decide +kernel
theorem dX7_believe_9 : decode cX7_believe 9 = .ok (.iconst 0, 1) := by decide +kernel
theorem dX7_believe_10 : decode cX7_believe 10 = .ok (.bipush 10, 2) := by decide +kernel
theorem dX7_believe_12 : decode cX7_believe 12 = .ok (.invokestatic 35, 3) := by decide +kernel
theorem dX7_believe_15 : decode cX7_believe 15 = .ok (.return_, 1) := by decide +kernel
theorem dX7_notSo_0 : decode cX7_notSo 0 = .ok (.iconst 0, 1) := by decide +kernel
theorem dX7_notSo_1 : decode cX7_notSo 1 = .ok (.istore_n 2, 1) := by decide +kernel
theorem dX7_notSo_2 : decode cX7_notSo 2 = .ok (.iconst 0, 1) := by decide +kernel
theorem dX7_notSo_3 : decode cX7_notSo 3 = .ok (.istore_n 3, 1) := by decide +kernel
theorem dX7_notSo_4 : decode cX7_notSo 4 = .ok (.iload_n 3, 1) := by decide +kernel
theorem dX7_notSo_5 : decode cX7_notSo 5 = .ok (.aload_n 0, 1) := by decide +kernel
theorem dX7_notSo_6 : decode cX7_notSo 6 = .ok (.getfield 28, 3) := by decide +kernel
theorem dX7_notSo_9 : decode cX7_notSo 9 = .ok (.if_icmp .ge 55, 3) := by decide +kernel
theorem dX7_notSo_12 : decode cX7_notSo 12 = .ok (.aload_n 0, 1) := by decide +kernel
theorem dX7_notSo_13 : decode cX7_notSo 13 = .ok (.getfield 24, 3) := by decide +kernel
theorem dX7_notSo_16 : decode cX7_notSo 16 = .ok (.aload_n 0, 1) := by decide +kernel
theorem dX7_notSo_17 : decode cX7_notSo 17 = .ok (.getfield 9, 3) := by decide +kernel
theorem dX7_notSo_20 : decode cX7_notSo 20 = .ok (.iload_n 3, 1) := by decide +kernel
theorem dX7_notSo_21 : decode cX7_notSo 21 = .ok (.iaload, 1) := by decide +kernel
theorem dX7_notSo_22 : decode cX7_notSo 22 = .ok (.putfield 41, 3) := by decide +kernel
theorem dX7_notSo_25 : decode cX7_notSo 25 = .ok (.iload_n 2, 1) := by decide +kernel
theorem dX7_notSo_26 : decode cX7_notSo 26 = .ok (.aload_n 1, 1) := by decide +kernel
theorem dX7_notSo_27 : decode cX7_notSo 27 = .ok (.aload_n 0, 1) := by decide +kernel
theorem dX7_notSo_28 : decode cX7_notSo 28 = .ok (.getfield 24, 3) := by decide +kernel
theorem dX7_notSo_31 : decode cX7_notSo 31 = .ok (.aload_n 0, 1) := by decide +kernel
theorem dX7_notSo_32 : decode cX7_notSo 32 = .ok (.getfield 15, 3) := by decide +kernel
theorem dX7_notSo_35 : decode cX7_notSo 35 = .ok (.iload_n 3, 1) := by decide +kernel
theorem dX7_notSo_36 : decode cX7_notSo 36 = .ok (.iaload, 1) := by decide +kernel
theorem dX7_notSo_37 : decode cX7_notSo 37 = .ok (.invokevirtual 44, 3) := by decide +kernel
theorem dX7_notSo_40 : decode cX7_notSo 40 = .ok (.aload_n 0, 1) := by decide +kernel
theorem dX7_notSo_41 : decode cX7_notSo 41 = .ok (.getfield 18, 3) := by decide +kernel
theorem dX7_notSo_44 : decode cX7_notSo 44 = .ok (.iload_n 3, 1) := by decide +kernel
theorem dX7_notSo_45 : decode cX7_notSo 45 = .ok (.iaload, 1) := by decide +kernel
theorem dX7_notSo_46 : decode cX7_notSo 46 = .ok (.if_icmp .ne 7, 3) := by decide +kernel
theorem dX7_notSo_49 : decode cX7_notSo 49 = .ok (.iconst 0, 1) := by decide +kernel
theorem dX7_notSo_50 : decode cX7_notSo 50 = .ok (.goto 6, 3) := by decide +kernel
theorem dX7_notSo_53 : decode cX7_notSo 53 = .ok (.iconst 1, 1) := by decide +kernel
theorem dX7_notSo_54 : decode cX7_notSo 54 = .ok (.iload_n 3, 1) := by decide +kernel
theorem dX7_notSo_55 : decode cX7_notSo 55 = .ok (.ishl, 1) := by decide +kernel
theorem dX7_notSo_56 : decode cX7_notSo 56 = .ok (.ior, 1) := by decide +kernel
theorem dX7_notSo_57 : decode cX7_notSo 57 = .ok (.istore_n 2, 1) := by decide +kernel
theorem dX7_notSo_58 : decode cX7_notSo 58 = .ok (.iinc 3 1, 3) := by decide +kernel
theorem dX7_notSo_61 : decode cX7_notSo 61 = .ok (.goto (-57), 3) := by decide +kernel
theorem dX7_notSo_64 : decode cX7_notSo 64 = .ok (.iload_n 2, 1) := by decide +kernel
theorem dX7_notSo_65 : decode cX7_notSo 65 = .ok (.ireturn, 1) := by decide +kernel
theorem dX7_allSo_0 : decode cX7_allSo 0 = .ok (.iconst 0, 1) := by decide +kernel
theorem dX7_allSo_1 : decode cX7_allSo 1 = .ok (.istore_n 2, 1) := by decide +kernel
theorem dX7_allSo_2 : decode cX7_allSo 2 = .ok (.iload_n 2, 1) := by decide +kernel
theorem dX7_allSo_3 : decode cX7_allSo 3 = .ok (.aload_n 0, 1) := by decide +kernel
theorem dX7_allSo_4 : decode cX7_allSo 4 = .ok (.getfield 28, 3) := by decide +kernel
theorem dX7_allSo_7 : decode cX7_allSo 7 = .ok (.if_icmp .ge 47, 3) := by decide +kernel
theorem dX7_allSo_10 : decode cX7_allSo 10 = .ok (.aload_n 0, 1) := by decide +kernel
theorem dX7_allSo_11 : decode cX7_allSo 11 = .ok (.getfield 24, 3) := by decide +kernel
theorem dX7_allSo_14 : decode cX7_allSo 14 = .ok (.aload_n 0, 1) := by decide +kernel
theorem dX7_allSo_15 : decode cX7_allSo 15 = .ok (.getfield 9, 3) := by decide +kernel
theorem dX7_allSo_18 : decode cX7_allSo 18 = .ok (.iload_n 2, 1) := by decide +kernel
theorem dX7_allSo_19 : decode cX7_allSo 19 = .ok (.iaload, 1) := by decide +kernel
theorem dX7_allSo_20 : decode cX7_allSo 20 = .ok (.putfield 41, 3) := by decide +kernel
theorem dX7_allSo_23 : decode cX7_allSo 23 = .ok (.aload_n 1, 1) := by decide +kernel
theorem dX7_allSo_24 : decode cX7_allSo 24 = .ok (.aload_n 0, 1) := by decide +kernel
theorem dX7_allSo_25 : decode cX7_allSo 25 = .ok (.getfield 24, 3) := by decide +kernel
theorem dX7_allSo_28 : decode cX7_allSo 28 = .ok (.aload_n 0, 1) := by decide +kernel
theorem dX7_allSo_29 : decode cX7_allSo 29 = .ok (.getfield 15, 3) := by decide +kernel
theorem dX7_allSo_32 : decode cX7_allSo 32 = .ok (.iload_n 2, 1) := by decide +kernel
theorem dX7_allSo_33 : decode cX7_allSo 33 = .ok (.iaload, 1) := by decide +kernel
theorem dX7_allSo_34 : decode cX7_allSo 34 = .ok (.invokevirtual 44, 3) := by decide +kernel
theorem dX7_allSo_37 : decode cX7_allSo 37 = .ok (.aload_n 0, 1) := by decide +kernel
theorem dX7_allSo_38 : decode cX7_allSo 38 = .ok (.getfield 18, 3) := by decide +kernel
theorem dX7_allSo_41 : decode cX7_allSo 41 = .ok (.iload_n 2, 1) := by decide +kernel
theorem dX7_allSo_42 : decode cX7_allSo 42 = .ok (.iaload, 1) := by decide +kernel
theorem dX7_allSo_43 : decode cX7_allSo 43 = .ok (.if_icmp .eq 5, 3) := by decide +kernel
theorem dX7_allSo_46 : decode cX7_allSo 46 = .ok (.iconst 0, 1) := by decide +kernel
theorem dX7_allSo_47 : decode cX7_allSo 47 = .ok (.ireturn, 1) := by decide +kernel
theorem dX7_allSo_48 : decode cX7_allSo 48 = .ok (.iinc 2 1, 3) := by decide +kernel
theorem dX7_allSo_51 : decode cX7_allSo 51 = .ok (.goto (-49), 3) := by decide +kernel
theorem dX7_allSo_54 : decode cX7_allSo 54 = .ok (.iconst 1, 1) := by decide +kernel
theorem dX7_allSo_55 : decode cX7_allSo 55 = .ok (.ireturn, 1) := by decide +kernel
theorem dX7_allSoIf_0 : decode cX7_allSoIf 0 = .ok (.aload_n 0, 1) := by decide +kernel
theorem dX7_allSoIf_1 : decode cX7_allSoIf 1 = .ok (.getfield 24, 3) := by decide +kernel
theorem dX7_allSoIf_4 : decode cX7_allSoIf 4 = .ok (.getfield 32, 3) := by decide +kernel
theorem dX7_allSoIf_7 : decode cX7_allSoIf 7 = .ok (.iload_n 2, 1) := by decide +kernel
theorem dX7_allSoIf_8 : decode cX7_allSoIf 8 = .ok (.iaload, 1) := by decide +kernel
theorem dX7_allSoIf_9 : decode cX7_allSoIf 9 = .ok (.istore 4, 2) := by decide +kernel
theorem dX7_allSoIf_11 : decode cX7_allSoIf 11 = .ok (.aload_n 0, 1) := by decide +kernel
theorem dX7_allSoIf_12 : decode cX7_allSoIf 12 = .ok (.getfield 24, 3) := by decide +kernel
theorem dX7_allSoIf_15 : decode cX7_allSoIf 15 = .ok (.getfield 32, 3) := by decide +kernel
theorem dX7_allSoIf_18 : decode cX7_allSoIf 18 = .ok (.iload_n 2, 1) := by decide +kernel
theorem dX7_allSoIf_19 : decode cX7_allSoIf 19 = .ok (.iload_n 3, 1) := by decide +kernel
theorem dX7_allSoIf_20 : decode cX7_allSoIf 20 = .ok (.iastore, 1) := by decide +kernel
theorem dX7_allSoIf_21 : decode cX7_allSoIf 21 = .ok (.aload_n 0, 1) := by decide +kernel
theorem dX7_allSoIf_22 : decode cX7_allSoIf 22 = .ok (.aload_n 1, 1) := by decide +kernel
theorem dX7_allSoIf_23 : decode cX7_allSoIf 23 = .ok (.invokevirtual 50, 3) := by decide +kernel
theorem dX7_allSoIf_26 : decode cX7_allSoIf 26 = .ok (.istore 5, 2) := by decide +kernel
theorem dX7_allSoIf_28 : decode cX7_allSoIf 28 = .ok (.aload_n 0, 1) := by decide +kernel
theorem dX7_allSoIf_29 : decode cX7_allSoIf 29 = .ok (.getfield 24, 3) := by decide +kernel
theorem dX7_allSoIf_32 : decode cX7_allSoIf 32 = .ok (.getfield 32, 3) := by decide +kernel
theorem dX7_allSoIf_35 : decode cX7_allSoIf 35 = .ok (.iload_n 2, 1) := by decide +kernel
theorem dX7_allSoIf_36 : decode cX7_allSoIf 36 = .ok (.iload 4, 2) := by decide +kernel
theorem dX7_allSoIf_38 : decode cX7_allSoIf 38 = .ok (.iastore, 1) := by decide +kernel
theorem dX7_allSoIf_39 : decode cX7_allSoIf 39 = .ok (.iload 5, 2) := by decide +kernel
theorem dX7_allSoIf_41 : decode cX7_allSoIf 41 = .ok (.ireturn, 1) := by decide +kernel
theorem dX7_otherWishSo_0 : decode cX7_otherWishSo 0 = .ok (.aload_n 0, 1) := by decide +kernel
theorem dX7_otherWishSo_1 : decode cX7_otherWishSo 1 = .ok (.getfield 24, 3) := by decide +kernel
theorem dX7_otherWishSo_4 : decode cX7_otherWishSo 4 = .ok (.getfield 32, 3) := by decide +kernel
theorem dX7_otherWishSo_7 : decode cX7_otherWishSo 7 = .ok (.iload_n 2, 1) := by decide +kernel
theorem dX7_otherWishSo_8 : decode cX7_otherWishSo 8 = .ok (.iaload, 1) := by decide +kernel
theorem dX7_otherWishSo_9 : decode cX7_otherWishSo 9 = .ok (.istore 5, 2) := by decide +kernel
theorem dX7_otherWishSo_11 : decode cX7_otherWishSo 11 = .ok (.aload_n 0, 1) := by decide +kernel
theorem dX7_otherWishSo_12 : decode cX7_otherWishSo 12 = .ok (.getfield 24, 3) := by decide +kernel
theorem dX7_otherWishSo_15 : decode cX7_otherWishSo 15 = .ok (.getfield 32, 3) := by decide +kernel
theorem dX7_otherWishSo_18 : decode cX7_otherWishSo 18 = .ok (.iload 4, 2) := by decide +kernel
theorem dX7_otherWishSo_20 : decode cX7_otherWishSo 20 = .ok (.iaload, 1) := by decide +kernel
theorem dX7_otherWishSo_21 : decode cX7_otherWishSo 21 = .ok (.istore 6, 2) := by decide +kernel
theorem dX7_otherWishSo_23 : decode cX7_otherWishSo 23 = .ok (.aload_n 0, 1) := by decide +kernel
theorem dX7_otherWishSo_24 : decode cX7_otherWishSo 24 = .ok (.getfield 24, 3) := by decide +kernel
theorem dX7_otherWishSo_27 : decode cX7_otherWishSo 27 = .ok (.getfield 32, 3) := by decide +kernel
theorem dX7_otherWishSo_30 : decode cX7_otherWishSo 30 = .ok (.iload_n 2, 1) := by decide +kernel
theorem dX7_otherWishSo_31 : decode cX7_otherWishSo 31 = .ok (.iload_n 3, 1) := by decide +kernel
theorem dX7_otherWishSo_32 : decode cX7_otherWishSo 32 = .ok (.iastore, 1) := by decide +kernel
theorem dX7_otherWishSo_33 : decode cX7_otherWishSo 33 = .ok (.bipush (-2), 2) := by decide +kernel
theorem dX7_otherWishSo_35 : decode cX7_otherWishSo 35 = .ok (.istore 7, 2) := by decide +kernel
theorem dX7_otherWishSo_37 : decode cX7_otherWishSo 37 = .ok (.iconst (-1), 1) := by decide +kernel
theorem dX7_otherWishSo_38 : decode cX7_otherWishSo 38 = .ok (.istore 8, 2) := by decide +kernel
theorem dX7_otherWishSo_40 : decode cX7_otherWishSo 40 = .ok (.iload 8, 2) := by decide +kernel
theorem dX7_otherWishSo_42 : decode cX7_otherWishSo 42 = .ok (.aload_n 1, 1) := by decide +kernel
theorem dX7_otherWishSo_43 : decode cX7_otherWishSo 43 = .ok (.getfield 54, 3) := by decide +kernel
theorem dX7_otherWishSo_46 : decode cX7_otherWishSo 46 = .ok (.if_icmp .ge 47, 3) := by decide +kernel
theorem dX7_otherWishSo_49 : decode cX7_otherWishSo 49 = .ok (.iload 7, 2) := by decide +kernel
theorem dX7_otherWishSo_51 : decode cX7_otherWishSo 51 = .ok (.bipush (-2), 2) := by decide +kernel
theorem dX7_otherWishSo_53 : decode cX7_otherWishSo 53 = .ok (.if_icmp .ne 40, 3) := by decide +kernel
theorem dX7_otherWishSo_56 : decode cX7_otherWishSo 56 = .ok (.aload_n 0, 1) := by decide +kernel
theorem dX7_otherWishSo_57 : decode cX7_otherWishSo 57 = .ok (.getfield 24, 3) := by decide +kernel
theorem dX7_otherWishSo_60 : decode cX7_otherWishSo 60 = .ok (.getfield 32, 3) := by decide +kernel
theorem dX7_otherWishSo_63 : decode cX7_otherWishSo 63 = .ok (.iload 4, 2) := by decide +kernel
theorem dX7_otherWishSo_65 : decode cX7_otherWishSo 65 = .ok (.iload 8, 2) := by decide +kernel
theorem dX7_otherWishSo_67 : decode cX7_otherWishSo 67 = .ok (.iastore, 1) := by decide +kernel
theorem dX7_otherWishSo_68 : decode cX7_otherWishSo 68 = .ok (.iload 8, 2) := by decide +kernel
theorem dX7_otherWishSo_70 : decode cX7_otherWishSo 70 = .ok (.iload 6, 2) := by decide +kernel
theorem dX7_otherWishSo_72 : decode cX7_otherWishSo 72 = .ok (.if_icmp .eq 15, 3) := by decide +kernel
theorem dX7_otherWishSo_75 : decode cX7_otherWishSo 75 = .ok (.aload_n 0, 1) := by decide +kernel
theorem dX7_otherWishSo_76 : decode cX7_otherWishSo 76 = .ok (.aload_n 1, 1) := by decide +kernel
theorem dX7_otherWishSo_77 : decode cX7_otherWishSo 77 = .ok (.invokevirtual 50, 3) := by decide +kernel
theorem dX7_otherWishSo_80 : decode cX7_otherWishSo 80 = .ok (.ifCond .eq 7, 3) := by decide +kernel
theorem dX7_otherWishSo_83 : decode cX7_otherWishSo 83 = .ok (.iload 8, 2) := by decide +kernel
theorem dX7_otherWishSo_85 : decode cX7_otherWishSo 85 = .ok (.istore 7, 2) := by decide +kernel
theorem dX7_otherWishSo_87 : decode cX7_otherWishSo 87 = .ok (.iinc 8 1, 3) := by decide +kernel
theorem dX7_otherWishSo_90 : decode cX7_otherWishSo 90 = .ok (.goto (-50), 3) := by decide +kernel
theorem dX7_otherWishSo_93 : decode cX7_otherWishSo 93 = .ok (.aload_n 0, 1) := by decide +kernel
theorem dX7_otherWishSo_94 : decode cX7_otherWishSo 94 = .ok (.getfield 24, 3) := by decide +kernel
theorem dX7_otherWishSo_97 : decode cX7_otherWishSo 97 = .ok (.getfield 32, 3) := by decide +kernel
theorem dX7_otherWishSo_100 : decode cX7_otherWishSo 100 = .ok (.iload_n 2, 1) := by decide +kernel
theorem dX7_otherWishSo_101 : decode cX7_otherWishSo 101 = .ok (.iload 5, 2) := by decide +kernel
theorem dX7_otherWishSo_103 : decode cX7_otherWishSo 103 = .ok (.iastore, 1) := by decide +kernel
theorem dX7_otherWishSo_104 : decode cX7_otherWishSo 104 = .ok (.aload_n 0, 1) := by decide +kernel
theorem dX7_otherWishSo_105 : decode cX7_otherWishSo 105 = .ok (.getfield 24, 3) := by decide +kernel
theorem dX7_otherWishSo_108 : decode cX7_otherWishSo 108 = .ok (.getfield 32, 3) := by decide +kernel
theorem dX7_otherWishSo_111 : decode cX7_otherWishSo 111 = .ok (.iload 4, 2) := by decide +kernel
theorem dX7_otherWishSo_113 : decode cX7_otherWishSo 113 = .ok (.iload 6, 2) := by decide +kernel
theorem dX7_otherWishSo_115 : decode cX7_otherWishSo 115 = .ok (.iastore, 1) := by decide +kernel
theorem dX7_otherWishSo_116 : decode cX7_otherWishSo 116 = .ok (.iload 7, 2) := by decide +kernel
theorem dX7_otherWishSo_118 : decode cX7_otherWishSo 118 = .ok (.ireturn, 1) := by decide +kernel
theorem dX7_soWithOneMore_0 : decode cX7_soWithOneMore 0 = .ok (.aload_n 0, 1) := by decide +kernel
theorem dX7_soWithOneMore_1 : decode cX7_soWithOneMore 1 = .ok (.aload_n 1, 1) := by decide +kernel
theorem dX7_soWithOneMore_2 : decode cX7_soWithOneMore 2 = .ok (.iload_n 2, 1) := by decide +kernel
theorem dX7_soWithOneMore_3 : decode cX7_soWithOneMore 3 = .ok (.iload_n 3, 1) := by decide +kernel
theorem dX7_soWithOneMore_4 : decode cX7_soWithOneMore 4 = .ok (.invokevirtual 57, 3) := by decide +kernel
theorem dX7_soWithOneMore_7 : decode cX7_soWithOneMore 7 = .ok (.ifCond .eq 5, 3) := by decide +kernel
theorem dX7_soWithOneMore_10 : decode cX7_soWithOneMore 10 = .ok (.iconst 1, 1) := by decide +kernel
theorem dX7_soWithOneMore_11 : decode cX7_soWithOneMore 11 = .ok (.ireturn, 1) := by decide +kernel
theorem dX7_soWithOneMore_12 : decode cX7_soWithOneMore 12 = .ok (.iconst 0, 1) := by decide +kernel
theorem dX7_soWithOneMore_13 : decode cX7_soWithOneMore 13 = .ok (.istore 4, 2) := by decide +kernel
theorem dX7_soWithOneMore_15 : decode cX7_soWithOneMore 15 = .ok (.iload 4, 2) := by decide +kernel
theorem dX7_soWithOneMore_17 : decode cX7_soWithOneMore 17 = .ok (.aload_n 1, 1) := by decide +kernel
theorem dX7_soWithOneMore_18 : decode cX7_soWithOneMore 18 = .ok (.getfield 61, 3) := by decide +kernel
theorem dX7_soWithOneMore_21 : decode cX7_soWithOneMore 21 = .ok (.if_icmp .ge 31, 3) := by decide +kernel
theorem dX7_soWithOneMore_24 : decode cX7_soWithOneMore 24 = .ok (.iload 4, 2) := by decide +kernel
theorem dX7_soWithOneMore_26 : decode cX7_soWithOneMore 26 = .ok (.iload_n 2, 1) := by decide +kernel
theorem dX7_soWithOneMore_27 : decode cX7_soWithOneMore 27 = .ok (.if_icmp .eq 19, 3) := by decide +kernel
theorem dX7_soWithOneMore_30 : decode cX7_soWithOneMore 30 = .ok (.aload_n 0, 1) := by decide +kernel
theorem dX7_soWithOneMore_31 : decode cX7_soWithOneMore 31 = .ok (.aload_n 1, 1) := by decide +kernel
theorem dX7_soWithOneMore_32 : decode cX7_soWithOneMore 32 = .ok (.iload_n 2, 1) := by decide +kernel
theorem dX7_soWithOneMore_33 : decode cX7_soWithOneMore 33 = .ok (.iload_n 3, 1) := by decide +kernel
theorem dX7_soWithOneMore_34 : decode cX7_soWithOneMore 34 = .ok (.iload 4, 2) := by decide +kernel
theorem dX7_soWithOneMore_36 : decode cX7_soWithOneMore 36 = .ok (.invokevirtual 64, 3) := by decide +kernel
theorem dX7_soWithOneMore_39 : decode cX7_soWithOneMore 39 = .ok (.bipush (-2), 2) := by decide +kernel
theorem dX7_soWithOneMore_41 : decode cX7_soWithOneMore 41 = .ok (.if_icmp .eq 5, 3) := by decide +kernel
theorem dX7_soWithOneMore_44 : decode cX7_soWithOneMore 44 = .ok (.iconst 1, 1) := by decide +kernel
theorem dX7_soWithOneMore_45 : decode cX7_soWithOneMore 45 = .ok (.ireturn, 1) := by decide +kernel
theorem dX7_soWithOneMore_46 : decode cX7_soWithOneMore 46 = .ok (.iinc 4 1, 3) := by decide +kernel
theorem dX7_soWithOneMore_49 : decode cX7_soWithOneMore 49 = .ok (.goto (-34), 3) := by decide +kernel
theorem dX7_soWithOneMore_52 : decode cX7_soWithOneMore 52 = .ok (.iconst 0, 1) := by decide +kernel
theorem dX7_soWithOneMore_53 : decode cX7_soWithOneMore 53 = .ok (.ireturn, 1) := by decide +kernel
