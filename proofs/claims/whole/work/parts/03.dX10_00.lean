theorem dX10_thrown_0 : decode cX10_thrown 0 = .ok (.aload_n 0, 1) := by decide +kernel
theorem dX10_thrown_1 : decode cX10_thrown 1 = .ok (.getfield 3, 3) := by decide +kernel
theorem dX10_thrown_4 : decode cX10_thrown 4 = .ok (.ireturn, 1) := by decide +kernel
theorem dX10_refuse_0 : decode cX10_refuse 0 = .ok (.aload_n 0, 1) := by decide +kernel
theorem dX10_refuse_1 : decode cX10_refuse 1 = .ok (.iconst 1, 1) := by decide +kernel
theorem dX10_refuse_2 : decode cX10_refuse 2 = .ok (.putfield 3, 3) := by decide +kernel
theorem dX10_refuse_5 : decode cX10_refuse 5 = .ok (.iconst 0, 1) := by decide +kernel
theorem dX10_refuse_6 : decode cX10_refuse 6 = .ok (.ireturn, 1) := by decide +kernel
theorem dX10_in_0 : decode cX10_in 0 = .ok (.lload_n 0, 1) := by decide +kernel
theorem dX10_in_1 : decode cX10_in 1 = .ok (.lload_n 2, 1) := by decide +kernel
theorem dX10_in_2 : decode cX10_in 2 = .ok (.lcmp, 1) := by decide +kernel
theorem dX10_in_3 : decode cX10_in 3 = .ok (.ifCond .lt 14, 3) := by decide +kernel
theorem dX10_in_6 : decode cX10_in 6 = .ok (.lload_n 0, 1) := by decide +kernel
theorem dX10_in_7 : decode cX10_in 7 = .ok (.lload 4, 2) := by decide +kernel
theorem dX10_in_9 : decode cX10_in 9 = .ok (.lcmp, 1) := by decide +kernel
theorem dX10_in_10 : decode cX10_in 10 = .ok (.ifCond .gt 7, 3) := by decide +kernel
theorem dX10_in_13 : decode cX10_in 13 = .ok (.iconst 1, 1) := by decide +kernel
theorem dX10_in_14 : decode cX10_in 14 = .ok (.goto 4, 3) := by decide +kernel
theorem dX10_in_17 : decode cX10_in 17 = .ok (.iconst 0, 1) := by decide +kernel
theorem dX10_in_18 : decode cX10_in 18 = .ok (.ireturn, 1) := by decide +kernel
theorem dX10_has_0 : decode cX10_has 0 = .ok (.iload_n 0, 1) := by decide +kernel
theorem dX10_has_1 : decode cX10_has 1 = .ok (.iload_n 1, 1) := by decide +kernel
theorem dX10_has_2 : decode cX10_has 2 = .ok (.ishr, 1) := by decide +kernel
theorem dX10_has_3 : decode cX10_has 3 = .ok (.iconst 1, 1) := by decide +kernel
theorem dX10_has_4 : decode cX10_has 4 = .ok (.iand, 1) := by decide +kernel
theorem dX10_has_5 : decode cX10_has 5 = .ok (.iconst 1, 1) := by decide +kernel
theorem dX10_has_6 : decode cX10_has 6 = .ok (.if_icmp .ne 7, 3) := by decide +kernel
theorem dX10_has_9 : decode cX10_has 9 = .ok (.iconst 1, 1) := by decide +kernel
theorem dX10_has_10 : decode cX10_has 10 = .ok (.goto 4, 3) := by decide +kernel
theorem dX10_has_13 : decode cX10_has 13 = .ok (.iconst 0, 1) := by decide +kernel
theorem dX10_has_14 : decode cX10_has 14 = .ok (.ireturn, 1) := by decide +kernel
theorem dX10_flag_0 : decode cX10_flag 0 = .ok (.iload_n 0, 1) := by decide +kernel
theorem dX10_flag_1 : decode cX10_flag 1 = .ok (.ifCond .eq 7, 3) := by decide +kernel
theorem dX10_flag_4 : decode cX10_flag 4 = .ok (.iconst 1, 1) := by decide +kernel
theorem dX10_flag_5 : decode cX10_flag 5 = .ok (.goto 4, 3) := by decide +kernel
theorem dX10_flag_8 : decode cX10_flag 8 = .ok (.iconst 0, 1) := by decide +kernel
theorem dX10_flag_9 : decode cX10_flag 9 = .ok (.ireturn, 1) := by decide +kernel
theorem dX10_common_0 : decode cX10_common 0 = .ok (.lload_n 2, 1) := by decide +kernel
theorem dX10_common_1 : decode cX10_common 1 = .ok (.lconst 0, 1) := by decide +kernel
theorem dX10_common_2 : decode cX10_common 2 = .ok (.lcmp, 1) := by decide +kernel
theorem dX10_common_3 : decode cX10_common 3 = .ok (.ifCond .ne 7, 3) := by decide +kernel
theorem dX10_common_6 : decode cX10_common 6 = .ok (.lload_n 0, 1) := by decide +kernel
theorem dX10_common_7 : decode cX10_common 7 = .ok (.goto 10, 3) := by decide +kernel
theorem dX10_common_10 : decode cX10_common 10 = .ok (.lload_n 2, 1) := by decide +kernel
theorem dX10_common_11 : decode cX10_common 11 = .ok (.lload_n 0, 1) := by decide +kernel
theorem dX10_common_12 : decode cX10_common 12 = .ok (.lload_n 2, 1) := by decide +kernel
theorem dX10_common_13 : decode cX10_common 13 = .ok (.lrem, 1) := by decide +kernel
theorem dX10_common_14 : decode cX10_common 14 = .ok (.invokestatic 7, 3) := by decide +kernel
theorem dX10_common_17 : decode cX10_common 17 = .ok (.lreturn, 1) := by decide +kernel
theorem dX10_enters_0 : decode cX10_enters 0 = .ok (.aload_n 0, 1) := by decide +kernel
theorem dX10_enters_1 : decode cX10_enters 1 = .ok (.getfield 11, 3) := by decide +kernel
theorem dX10_enters_4 : decode cX10_enters 4 = .ok (.aload_n 0, 1) := by decide +kernel
theorem dX10_enters_5 : decode cX10_enters 5 = .ok (.getfield 15, 3) := by decide +kernel
theorem dX10_enters_8 : decode cX10_enters 8 = .ok (.lload_n 1, 1) := by decide +kernel
theorem dX10_enters_9 : decode cX10_enters 9 = .ok (.lastore, 1) := by decide +kernel
theorem dX10_enters_10 : decode cX10_enters 10 = .ok (.aload_n 0, 1) := by decide +kernel
theorem dX10_enters_11 : decode cX10_enters 11 = .ok (.dup, 1) := by decide +kernel
theorem dX10_enters_12 : decode cX10_enters 12 = .ok (.getfield 15, 3) := by decide +kernel
theorem dX10_enters_15 : decode cX10_enters 15 = .ok (.iconst 1, 1) := by decide +kernel
theorem dX10_enters_16 : decode cX10_enters 16 = .ok (.iadd, 1) := by decide +kernel
theorem dX10_enters_17 : decode cX10_enters 17 = .ok (.putfield 15, 3) := by decide +kernel
theorem dX10_enters_20 : decode cX10_enters 20 = .ok (.return_, 1) := by decide +kernel
theorem dX10_entersFraction_0 : decode cX10_entersFraction 0 = .ok (.lload_n 1, 1) := by decide +kernel
theorem dX10_entersFraction_1 : decode cX10_entersFraction 1 = .ok (.lload_n 3, 1) := by decide +kernel
theorem dX10_entersFraction_2 : decode cX10_entersFraction 2 = .ok (.invokestatic 7, 3) := by decide +kernel
theorem dX10_entersFraction_5 : decode cX10_entersFraction 5 = .ok (.lstore 5, 2) := by decide +kernel
theorem dX10_entersFraction_7 : decode cX10_entersFraction 7 = .ok (.aload_n 0, 1) := by decide +kernel
theorem dX10_entersFraction_8 : decode cX10_entersFraction 8 = .ok (.lload_n 1, 1) := by decide +kernel
theorem dX10_entersFraction_9 : decode cX10_entersFraction 9 = .ok (.lload 5, 2) := by decide +kernel
theorem dX10_entersFraction_11 : decode cX10_entersFraction 11 = .ok (.ldiv, 1) := by decide +kernel
theorem dX10_entersFraction_12 : decode cX10_entersFraction 12 = .ok (.invokevirtual 18, 3) := by decide +kernel
theorem dX10_entersFraction_15 : decode cX10_entersFraction 15 = .ok (.aload_n 0, 1) := by decide +kernel
theorem dX10_entersFraction_16 : decode cX10_entersFraction 16 = .ok (.lload_n 3, 1) := by decide +kernel
theorem dX10_entersFraction_17 : decode cX10_entersFraction 17 = .ok (.lload 5, 2) := by decide +kernel
theorem dX10_entersFraction_19 : decode cX10_entersFraction 19 = .ok (.ldiv, 1) := by decide +kernel
theorem dX10_entersFraction_20 : decode cX10_entersFraction 20 = .ok (.invokevirtual 18, 3) := by decide +kernel
theorem dX10_entersFraction_23 : decode cX10_entersFraction 23 = .ok (.return_, 1) := by decide +kernel
theorem dX10_isFloor_0 : decode cX10_isFloor 0 = .ok (.iload_n 1, 1) := by decide +kernel
theorem dX10_isFloor_1 : decode cX10_isFloor 1 = .ok (.i2l, 1) := by decide +kernel
theorem dX10_isFloor_2 : decode cX10_isFloor 2 = .ok (.lconst 0, 1) := by decide +kernel
theorem dX10_isFloor_3 : decode cX10_isFloor 3 = .ok (.aload_n 0, 1) := by decide +kernel
theorem dX10_isFloor_4 : decode cX10_isFloor 4 = .ok (.getfield 22, 3) := by decide +kernel
theorem dX10_isFloor_7 : decode cX10_isFloor 7 = .ok (.iconst 1, 1) := by decide +kernel
theorem dX10_isFloor_8 : decode cX10_isFloor 8 = .ok (.isub, 1) := by decide +kernel
theorem dX10_isFloor_9 : decode cX10_isFloor 9 = .ok (.i2l, 1) := by decide +kernel
theorem dX10_isFloor_10 : decode cX10_isFloor 10 = .ok (.invokestatic 25, 3) := by decide +kernel
theorem dX10_isFloor_13 : decode cX10_isFloor 13 = .ok (.ireturn, 1) := by decide +kernel
theorem dX10_isRider_0 : decode cX10_isRider 0 = .ok (.iload_n 1, 1) := by decide +kernel
theorem dX10_isRider_1 : decode cX10_isRider 1 = .ok (.i2l, 1) := by decide +kernel
theorem dX10_isRider_2 : decode cX10_isRider 2 = .ok (.lconst 0, 1) := by decide +kernel
theorem dX10_isRider_3 : decode cX10_isRider 3 = .ok (.aload_n 0, 1) := by decide +kernel
theorem dX10_isRider_4 : decode cX10_isRider 4 = .ok (.getfield 29, 3) := by decide +kernel
theorem dX10_isRider_7 : decode cX10_isRider 7 = .ok (.iconst 1, 1) := by decide +kernel
theorem dX10_isRider_8 : decode cX10_isRider 8 = .ok (.isub, 1) := by decide +kernel
theorem dX10_isRider_9 : decode cX10_isRider 9 = .ok (.i2l, 1) := by decide +kernel
theorem dX10_isRider_10 : decode cX10_isRider 10 = .ok (.invokestatic 25, 3) := by decide +kernel
theorem dX10_isRider_13 : decode cX10_isRider 13 = .ok (.ireturn, 1) := by decide +kernel
theorem dX10_sign_0 : decode cX10_sign 0 = .ok (.aload_n 0, 1) := by decide +kernel
theorem dX10_sign_1 : decode cX10_sign 1 = .ok (.iconst 0, 1) := by decide +kernel
theorem dX10_sign_2 : decode cX10_sign 2 = .ok (.putfield 3, 3) := by decide +kernel
theorem dX10_sign_5 : decode cX10_sign 5 = .ok (.aload_n 0, 1) := by decide +kernel
theorem dX10_sign_6 : decode cX10_sign 6 = .ok (.getfield 32, 3) := by decide +kernel
theorem dX10_sign_9 : decode cX10_sign 9 = .ok (.bipush 76, 2) := by decide +kernel
theorem dX10_sign_11 : decode cX10_sign 11 = .ok (.if_icmp .le 5, 3) := by decide +kernel
theorem dX10_sign_14 : decode cX10_sign 14 = .ok (.iconst (-1), 1) := by decide +kernel
theorem dX10_sign_15 : decode cX10_sign 15 = .ok (.ireturn, 1) := by decide +kernel
theorem dX10_sign_16 : decode cX10_sign 16 = .ok (.iconst 0, 1) := by decide +kernel
theorem dX10_sign_17 : decode cX10_sign 17 = .ok (.istore_n 2, 1) := by decide +kernel
theorem dX10_sign_18 : decode cX10_sign 18 = .ok (.iload_n 2, 1) := by decide +kernel
theorem dX10_sign_19 : decode cX10_sign 19 = .ok (.iconst 4, 1) := by decide +kernel
theorem dX10_sign_20 : decode cX10_sign 20 = .ok (.if_icmp .ge 33, 3) := by decide +kernel
theorem dX10_sign_23 : decode cX10_sign 23 = .ok (.aload_n 0, 1) := by decide +kernel
theorem dX10_sign_24 : decode cX10_sign 24 = .ok (.getfield 35, 3) := by decide +kernel
theorem dX10_sign_27 : decode cX10_sign 27 = .ok (.aload_n 0, 1) := by decide +kernel
theorem dX10_sign_28 : decode cX10_sign 28 = .ok (.getfield 32, 3) := by decide +kernel
theorem dX10_sign_31 : decode cX10_sign 31 = .ok (.iload_n 2, 1) := by decide +kernel
theorem dX10_sign_32 : decode cX10_sign 32 = .ok (.iadd, 1) := by decide +kernel
theorem dX10_sign_33 : decode cX10_sign 33 = .ok (.iload_n 1, 1) := by decide +kernel
theorem dX10_sign_34 : decode cX10_sign 34 = .ok (.bipush 24, 2) := by decide +kernel
theorem dX10_sign_36 : decode cX10_sign 36 = .ok (.bipush 8, 2) := by decide +kernel
theorem dX10_sign_38 : decode cX10_sign 38 = .ok (.iload_n 2, 1) := by decide +kernel
theorem dX10_sign_39 : decode cX10_sign 39 = .ok (.imul, 1) := by decide +kernel
theorem dX10_sign_40 : decode cX10_sign 40 = .ok (.isub, 1) := by decide +kernel
theorem dX10_sign_41 : decode cX10_sign 41 = .ok (.ishr, 1) := by decide +kernel
theorem dX10_sign_42 : decode cX10_sign 42 = .ok (.sipush 255, 3) := by decide +kernel
theorem dX10_sign_45 : decode cX10_sign 45 = .ok (.iand, 1) := by decide +kernel
theorem dX10_sign_46 : decode cX10_sign 46 = .ok (.iastore, 1) := by decide +kernel
theorem dX10_sign_47 : decode cX10_sign 47 = .ok (.iinc 2 1, 3) := by decide +kernel
theorem dX10_sign_50 : decode cX10_sign 50 = .ok (.goto (-32), 3) := by decide +kernel
theorem dX10_sign_53 : decode cX10_sign 53 = .ok (.aload_n 0, 1) := by decide +kernel
theorem dX10_sign_54 : decode cX10_sign 54 = .ok (.dup, 1) := by decide +kernel
theorem dX10_sign_55 : decode cX10_sign 55 = .ok (.getfield 32, 3) := by decide +kernel
theorem dX10_sign_58 : decode cX10_sign 58 = .ok (.iconst 4, 1) := by decide +kernel
theorem dX10_sign_59 : decode cX10_sign 59 = .ok (.iadd, 1) := by decide +kernel
theorem dX10_sign_60 : decode cX10_sign 60 = .ok (.putfield 32, 3) := by decide +kernel
theorem dX10_sign_63 : decode cX10_sign 63 = .ok (.aload_n 0, 1) := by decide +kernel
theorem dX10_sign_64 : decode cX10_sign 64 = .ok (.getfield 32, 3) := by decide +kernel
theorem dX10_sign_67 : decode cX10_sign 67 = .ok (.ireturn, 1) := by decide +kernel
theorem dX10_end_0 : decode cX10_end 0 = .ok (.aload_n 0, 1) := by decide +kernel
theorem dX10_end_1 : decode cX10_end 1 = .ok (.iconst 0, 1) := by decide +kernel
theorem dX10_end_2 : decode cX10_end 2 = .ok (.putfield 3, 3) := by decide +kernel
theorem dX10_end_5 : decode cX10_end 5 = .ok (.iload_n 1, 1) := by decide +kernel
theorem dX10_end_6 : decode cX10_end 6 = .ok (.i2l, 1) := by decide +kernel
theorem dX10_end_7 : decode cX10_end 7 = .ok (.lconst 0, 1) := by decide +kernel
theorem dX10_end_8 : decode cX10_end 8 = .ok (.aload_n 0, 1) := by decide +kernel
theorem dX10_end_9 : decode cX10_end 9 = .ok (.getfield 32, 3) := by decide +kernel
theorem dX10_end_12 : decode cX10_end 12 = .ok (.i2l, 1) := by decide +kernel
theorem dX10_end_13 : decode cX10_end 13 = .ok (.invokestatic 25, 3) := by decide +kernel
theorem dX10_end_16 : decode cX10_end 16 = .ok (.ifCond .ne 5, 3) := by decide +kernel
theorem dX10_end_19 : decode cX10_end 19 = .ok (.iconst 0, 1) := by decide +kernel
theorem dX10_end_20 : decode cX10_end 20 = .ok (.ireturn, 1) := by decide +kernel
theorem dX10_end_21 : decode cX10_end 21 = .ok (.aload_n 0, 1) := by decide +kernel
theorem dX10_end_22 : decode cX10_end 22 = .ok (.iload_n 1, 1) := by decide +kernel
theorem dX10_end_23 : decode cX10_end 23 = .ok (.putfield 32, 3) := by decide +kernel
theorem dX10_end_26 : decode cX10_end 26 = .ok (.iconst 1, 1) := by decide +kernel
theorem dX10_end_27 : decode cX10_end 27 = .ok (.ireturn, 1) := by decide +kernel
theorem dX10_begins_0 : decode cX10_begins 0 = .ok (.aload_n 0, 1) := by decide +kernel
theorem dX10_begins_1 : decode cX10_begins 1 = .ok (.getfield 32, 3) := by decide +kernel
theorem dX10_begins_4 : decode cX10_begins 4 = .ok (.istore_n 2, 1) := by decide +kernel
theorem dX10_begins_5 : decode cX10_begins 5 = .ok (.aload_n 0, 1) := by decide +kernel
theorem dX10_begins_6 : decode cX10_begins 6 = .ok (.iconst 0, 1) := by decide +kernel
theorem dX10_begins_7 : decode cX10_begins 7 = .ok (.putfield 32, 3) := by decide +kernel
theorem dX10_begins_10 : decode cX10_begins 10 = .ok (.aload_n 0, 1) := by decide +kernel
theorem dX10_begins_11 : decode cX10_begins 11 = .ok (.iconst 0, 1) := by decide +kernel
theorem dX10_begins_12 : decode cX10_begins 12 = .ok (.putfield 39, 3) := by decide +kernel
theorem dX10_begins_15 : decode cX10_begins 15 = .ok (.aload_n 0, 1) := by decide +kernel
theorem dX10_begins_16 : decode cX10_begins 16 = .ok (.iconst 0, 1) := by decide +kernel
theorem dX10_begins_17 : decode cX10_begins 17 = .ok (.putfield 42, 3) := by decide +kernel
theorem dX10_begins_20 : decode cX10_begins 20 = .ok (.aload_n 0, 1) := by decide +kernel
theorem dX10_begins_21 : decode cX10_begins 21 = .ok (.iload_n 2, 1) := by decide +kernel
theorem dX10_begins_22 : decode cX10_begins 22 = .ok (.iload_n 1, 1) := by decide +kernel
theorem dX10_begins_23 : decode cX10_begins 23 = .ok (.invokestatic 45, 3) := by decide +kernel
theorem dX10_begins_26 : decode cX10_begins 26 = .ok (.putfield 51, 3) := by decide +kernel
theorem dX10_begins_29 : decode cX10_begins 29 = .ok (.iload_n 2, 1) := by decide +kernel
theorem dX10_begins_30 : decode cX10_begins 30 = .ok (.ireturn, 1) := by decide +kernel
theorem dX10_takes_0 : decode cX10_takes 0 = .ok (.aload_n 0, 1) := by decide +kernel
theorem dX10_takes_1 : decode cX10_takes 1 = .ok (.getfield 39, 3) := by decide +kernel
theorem dX10_takes_4 : decode cX10_takes 4 = .ok (.aload_n 0, 1) := by decide +kernel
theorem dX10_takes_5 : decode cX10_takes 5 = .ok (.getfield 51, 3) := by decide +kernel
theorem dX10_takes_8 : decode cX10_takes 8 = .ok (.if_icmp .ge 20, 3) := by decide +kernel
theorem dX10_takes_11 : decode cX10_takes 11 = .ok (.aload_n 0, 1) := by decide +kernel
theorem dX10_takes_12 : decode cX10_takes 12 = .ok (.getfield 35, 3) := by decide +kernel
theorem dX10_takes_15 : decode cX10_takes 15 = .ok (.aload_n 0, 1) := by decide +kernel
theorem dX10_takes_16 : decode cX10_takes 16 = .ok (.getfield 39, 3) := by decide +kernel
theorem dX10_takes_19 : decode cX10_takes 19 = .ok (.iaload, 1) := by decide +kernel
theorem dX10_takes_20 : decode cX10_takes 20 = .ok (.iload_n 1, 1) := by decide +kernel
theorem dX10_takes_21 : decode cX10_takes 21 = .ok (.if_icmp .ne 7, 3) := by decide +kernel
theorem dX10_takes_24 : decode cX10_takes 24 = .ok (.iconst 1, 1) := by decide +kernel
theorem dX10_takes_25 : decode cX10_takes 25 = .ok (.goto 4, 3) := by decide +kernel
theorem dX10_takes_28 : decode cX10_takes 28 = .ok (.iconst 0, 1) := by decide +kernel
theorem dX10_takes_29 : decode cX10_takes 29 = .ok (.istore_n 2, 1) := by decide +kernel
theorem dX10_takes_30 : decode cX10_takes 30 = .ok (.aload_n 0, 1) := by decide +kernel
theorem dX10_takes_31 : decode cX10_takes 31 = .ok (.dup, 1) := by decide +kernel
theorem dX10_takes_32 : decode cX10_takes 32 = .ok (.getfield 39, 3) := by decide +kernel
theorem dX10_takes_35 : decode cX10_takes 35 = .ok (.iload_n 2, 1) := by decide +kernel
theorem dX10_takes_36 : decode cX10_takes 36 = .ok (.invokestatic 54, 3) := by decide +kernel
theorem dX10_takes_39 : decode cX10_takes 39 = .ok (.iadd, 1) := by decide +kernel
theorem dX10_takes_40 : decode cX10_takes 40 = .ok (.putfield 39, 3) := by decide +kernel
theorem dX10_takes_43 : decode cX10_takes 43 = .ok (.iload_n 2, 1) := by decide +kernel
theorem dX10_takes_44 : decode cX10_takes 44 = .ok (.ireturn, 1) := by decide +kernel
theorem dX10_isDigit_0 : decode cX10_isDigit 0 = .ok (.aload_n 0, 1) := by decide +kernel
theorem dX10_isDigit_1 : decode cX10_isDigit 1 = .ok (.getfield 39, 3) := by decide +kernel
theorem dX10_isDigit_4 : decode cX10_isDigit 4 = .ok (.aload_n 0, 1) := by decide +kernel
theorem dX10_isDigit_5 : decode cX10_isDigit 5 = .ok (.getfield 51, 3) := by decide +kernel
theorem dX10_isDigit_8 : decode cX10_isDigit 8 = .ok (.if_icmp .ge 29, 3) := by decide +kernel
theorem dX10_isDigit_11 : decode cX10_isDigit 11 = .ok (.aload_n 0, 1) := by decide +kernel
theorem dX10_isDigit_12 : decode cX10_isDigit 12 = .ok (.getfield 35, 3) := by decide +kernel
theorem dX10_isDigit_15 : decode cX10_isDigit 15 = .ok (.aload_n 0, 1) := by decide +kernel
theorem dX10_isDigit_16 : decode cX10_isDigit 16 = .ok (.getfield 39, 3) := by decide +kernel
theorem dX10_isDigit_19 : decode cX10_isDigit 19 = .ok (.iaload, 1) := by decide +kernel
theorem dX10_isDigit_20 : decode cX10_isDigit 20 = .ok (.i2l, 1) := by decide +kernel
theorem dX10_isDigit_21 : decode cX10_isDigit 21 = .ok (.ldc2_w 58, 3) := by decide +kernel
theorem dX10_isDigit_24 : decode cX10_isDigit 24 = .ok (.ldc2_w 60, 3) := by decide +kernel
theorem dX10_isDigit_27 : decode cX10_isDigit 27 = .ok (.invokestatic 25, 3) := by decide +kernel
theorem dX10_isDigit_30 : decode cX10_isDigit 30 = .ok (.ifCond .eq 7, 3) := by decide +kernel
theorem dX10_isDigit_33 : decode cX10_isDigit 33 = .ok (.iconst 1, 1) := by decide +kernel
theorem dX10_isDigit_34 : decode cX10_isDigit 34 = .ok (.goto 4, 3) := by decide +kernel
theorem dX10_isDigit_37 : decode cX10_isDigit 37 = .ok (.iconst 0, 1) := by decide +kernel
theorem dX10_isDigit_38 : decode cX10_isDigit 38 = .ok (.ireturn, 1) := by decide +kernel
theorem dX10_among_0 : decode cX10_among 0 = .ok (.iconst 0, 1) := by decide +kernel
theorem dX10_among_1 : decode cX10_among 1 = .ok (.istore_n 2, 1) := by decide +kernel
theorem dX10_among_2 : decode cX10_among 2 = .ok (.iload_n 2, 1) := by decide +kernel
theorem dX10_among_3 : decode cX10_among 3 = .ok (.aload_n 1, 1) := by decide +kernel
theorem dX10_among_4 : decode cX10_among 4 = .ok (.invokevirtual 62, 3) := by decide +kernel
theorem dX10_among_7 : decode cX10_among 7 = .ok (.if_icmp .ge 39, 3) := by decide +kernel
theorem dX10_among_10 : decode cX10_among 10 = .ok (.aload_n 0, 1) := by decide +kernel
theorem dX10_among_11 : decode cX10_among 11 = .ok (.getfield 39, 3) := by decide +kernel
theorem dX10_among_14 : decode cX10_among 14 = .ok (.aload_n 0, 1) := by decide +kernel
theorem dX10_among_15 : decode cX10_among 15 = .ok (.getfield 51, 3) := by decide +kernel
theorem dX10_among_18 : decode cX10_among 18 = .ok (.if_icmp .ge 28, 3) := by decide +kernel
theorem dX10_among_21 : decode cX10_among 21 = .ok (.aload_n 1, 1) := by decide +kernel
theorem dX10_among_22 : decode cX10_among 22 = .ok (.iload_n 2, 1) := by decide +kernel
theorem dX10_among_23 : decode cX10_among 23 = .ok (.invokevirtual 68, 3) := by decide +kernel
theorem dX10_among_26 : decode cX10_among 26 = .ok (.aload_n 0, 1) := by decide +kernel
theorem dX10_among_27 : decode cX10_among 27 = .ok (.getfield 35, 3) := by decide +kernel
theorem dX10_among_30 : decode cX10_among 30 = .ok (.aload_n 0, 1) := by decide +kernel
theorem dX10_among_31 : decode cX10_among 31 = .ok (.getfield 39, 3) := by decide +kernel
theorem dX10_among_34 : decode cX10_among 34 = .ok (.iaload, 1) := by decide +kernel
theorem dX10_among_35 : decode cX10_among 35 = .ok (.if_icmp .ne 5, 3) := by decide +kernel
theorem dX10_among_38 : decode cX10_among 38 = .ok (.iload_n 2, 1) := by decide +kernel
theorem dX10_among_39 : decode cX10_among 39 = .ok (.ireturn, 1) := by decide +kernel
theorem dX10_among_40 : decode cX10_among 40 = .ok (.iinc 2 1, 3) := by decide +kernel
theorem dX10_among_43 : decode cX10_among 43 = .ok (.goto (-41), 3) := by decide +kernel
theorem dX10_among_46 : decode cX10_among 46 = .ok (.iconst (-1), 1) := by decide +kernel
theorem dX10_among_47 : decode cX10_among 47 = .ok (.ireturn, 1) := by decide +kernel
theorem dX10_faultOf_0 : decode cX10_faultOf 0 = .ok (.iload_n 3, 1) := by decide +kernel
theorem dX10_faultOf_1 : decode cX10_faultOf 1 = .ok (.ifCond .eq 18, 3) := by decide +kernel
theorem dX10_faultOf_4 : decode cX10_faultOf 4 = .ok (.aload_n 0, 1) := by decide +kernel
theorem dX10_faultOf_5 : decode cX10_faultOf 5 = .ok (.getfield 39, 3) := by decide +kernel
theorem dX10_faultOf_8 : decode cX10_faultOf 8 = .ok (.aload_n 0, 1) := by decide +kernel
theorem dX10_faultOf_9 : decode cX10_faultOf 9 = .ok (.getfield 51, 3) := by decide +kernel
theorem dX10_faultOf_12 : decode cX10_faultOf 12 = .ok (.if_icmp .ne 7, 3) := by decide +kernel
theorem dX10_faultOf_15 : decode cX10_faultOf 15 = .ok (.iconst 1, 1) := by decide +kernel
theorem dX10_faultOf_16 : decode cX10_faultOf 16 = .ok (.goto 4, 3) := by decide +kernel
theorem dX10_faultOf_19 : decode cX10_faultOf 19 = .ok (.iconst 0, 1) := by decide +kernel
theorem dX10_faultOf_20 : decode cX10_faultOf 20 = .ok (.istore 4, 2) := by decide +kernel
theorem dX10_faultOf_22 : decode cX10_faultOf 22 = .ok (.iload_n 1, 1) := by decide +kernel
theorem dX10_faultOf_23 : decode cX10_faultOf 23 = .ok (.iload_n 2, 1) := by decide +kernel
theorem dX10_faultOf_24 : decode cX10_faultOf 24 = .ok (.if_icmp .le 20, 3) := by decide +kernel
theorem dX10_faultOf_27 : decode cX10_faultOf 27 = .ok (.iload 4, 2) := by decide +kernel
theorem dX10_faultOf_29 : decode cX10_faultOf 29 = .ok (.ifCond .ne 11, 3) := by decide +kernel
theorem dX10_faultOf_32 : decode cX10_faultOf 32 = .ok (.aload_n 0, 1) := by decide +kernel
theorem dX10_faultOf_33 : decode cX10_faultOf 33 = .ok (.getfield 39, 3) := by decide +kernel
theorem dX10_faultOf_36 : decode cX10_faultOf 36 = .ok (.iload_n 2, 1) := by decide +kernel
theorem dX10_faultOf_37 : decode cX10_faultOf 37 = .ok (.if_icmp .lt 7, 3) := by decide +kernel
theorem dX10_faultOf_40 : decode cX10_faultOf 40 = .ok (.iconst (-1), 1) := by decide +kernel
theorem dX10_faultOf_41 : decode cX10_faultOf 41 = .ok (.iload_n 2, 1) := by decide +kernel
theorem dX10_faultOf_42 : decode cX10_faultOf 42 = .ok (.isub, 1) := by decide +kernel
theorem dX10_faultOf_43 : decode cX10_faultOf 43 = .ok (.ireturn, 1) := by decide +kernel
theorem dX10_faultOf_44 : decode cX10_faultOf 44 = .ok (.iload 4, 2) := by decide +kernel
theorem dX10_faultOf_46 : decode cX10_faultOf 46 = .ok (.ifCond .eq 7, 3) := by decide +kernel
theorem dX10_faultOf_49 : decode cX10_faultOf 49 = .ok (.iconst 0, 1) := by decide +kernel
theorem dX10_faultOf_50 : decode cX10_faultOf 50 = .ok (.goto 9, 3) := by decide +kernel
theorem dX10_faultOf_53 : decode cX10_faultOf 53 = .ok (.iconst (-1), 1) := by decide +kernel
theorem dX10_faultOf_54 : decode cX10_faultOf 54 = .ok (.aload_n 0, 1) := by decide +kernel
theorem dX10_faultOf_55 : decode cX10_faultOf 55 = .ok (.getfield 39, 3) := by decide +kernel
theorem dX10_faultOf_58 : decode cX10_faultOf 58 = .ok (.isub, 1) := by decide +kernel
theorem dX10_faultOf_59 : decode cX10_faultOf 59 = .ok (.ireturn, 1) := by decide +kernel
theorem dX10_floors_0 : decode cX10_floors 0 = .ok (.aload_n 0, 1) := by decide +kernel
theorem dX10_floors_1 : decode cX10_floors 1 = .ok (.iconst 0, 1) := by decide +kernel
theorem dX10_floors_2 : decode cX10_floors 2 = .ok (.putfield 3, 3) := by decide +kernel
theorem dX10_floors_5 : decode cX10_floors 5 = .ok (.iload_n 1, 1) := by decide +kernel
theorem dX10_floors_6 : decode cX10_floors 6 = .ok (.i2l, 1) := by decide +kernel
theorem dX10_floors_7 : decode cX10_floors 7 = .ok (.ldc2_w 72, 3) := by decide +kernel
theorem dX10_floors_10 : decode cX10_floors 10 = .ok (.ldc2_w 74, 3) := by decide +kernel
theorem dX10_floors_13 : decode cX10_floors 13 = .ok (.invokestatic 25, 3) := by decide +kernel
theorem dX10_floors_16 : decode cX10_floors 16 = .ok (.ifCond .ne 5, 3) := by decide +kernel
theorem dX10_floors_19 : decode cX10_floors 19 = .ok (.iconst 0, 1) := by decide +kernel
theorem dX10_floors_20 : decode cX10_floors 20 = .ok (.ireturn, 1) := by decide +kernel
theorem dX10_floors_21 : decode cX10_floors 21 = .ok (.aload_n 0, 1) := by decide +kernel
theorem dX10_floors_22 : decode cX10_floors 22 = .ok (.iload_n 1, 1) := by decide +kernel
theorem dX10_floors_23 : decode cX10_floors 23 = .ok (.putfield 22, 3) := by decide +kernel
theorem dX10_floors_26 : decode cX10_floors 26 = .ok (.aload_n 0, 1) := by decide +kernel
theorem dX10_floors_27 : decode cX10_floors 27 = .ok (.iconst 0, 1) := by decide +kernel
theorem dX10_floors_28 : decode cX10_floors 28 = .ok (.putfield 29, 3) := by decide +kernel
theorem dX10_floors_31 : decode cX10_floors 31 = .ok (.aload_n 0, 1) := by decide +kernel
theorem dX10_floors_32 : decode cX10_floors 32 = .ok (.iconst (-1), 1) := by decide +kernel
theorem dX10_floors_33 : decode cX10_floors 33 = .ok (.putfield 76, 3) := by decide +kernel
theorem dX10_floors_36 : decode cX10_floors 36 = .ok (.iconst 0, 1) := by decide +kernel
theorem dX10_floors_37 : decode cX10_floors 37 = .ok (.istore_n 2, 1) := by decide +kernel
theorem dX10_floors_38 : decode cX10_floors 38 = .ok (.iload_n 2, 1) := by decide +kernel
theorem dX10_floors_39 : decode cX10_floors 39 = .ok (.bipush 33, 2) := by decide +kernel
theorem dX10_floors_41 : decode cX10_floors 41 = .ok (.if_icmp .ge 16, 3) := by decide +kernel
theorem dX10_floors_44 : decode cX10_floors 44 = .ok (.aload_n 0, 1) := by decide +kernel
theorem dX10_floors_45 : decode cX10_floors 45 = .ok (.getfield 79, 3) := by decide +kernel
theorem dX10_floors_48 : decode cX10_floors 48 = .ok (.iload_n 2, 1) := by decide +kernel
theorem dX10_floors_49 : decode cX10_floors 49 = .ok (.iconst 0, 1) := by decide +kernel
theorem dX10_floors_50 : decode cX10_floors 50 = .ok (.iastore, 1) := by decide +kernel
theorem dX10_floors_51 : decode cX10_floors 51 = .ok (.iinc 2 1, 3) := by decide +kernel
theorem dX10_floors_54 : decode cX10_floors 54 = .ok (.goto (-16), 3) := by decide +kernel
theorem dX10_floors_57 : decode cX10_floors 57 = .ok (.aload_n 0, 1) := by decide +kernel
theorem dX10_floors_58 : decode cX10_floors 58 = .ok (.iconst 0, 1) := by decide +kernel
theorem dX10_floors_59 : decode cX10_floors 59 = .ok (.putfield 82, 3) := by decide +kernel
theorem dX10_floors_62 : decode cX10_floors 62 = .ok (.aload_n 0, 1) := by decide +kernel
theorem dX10_floors_63 : decode cX10_floors 63 = .ok (.iconst 0, 1) := by decide +kernel
theorem dX10_floors_64 : decode cX10_floors 64 = .ok (.putfield 85, 3) := by decide +kernel
theorem dX10_floors_67 : decode cX10_floors 67 = .ok (.aload_n 0, 1) := by decide +kernel
theorem dX10_floors_68 : decode cX10_floors 68 = .ok (.dup, 1) := by decide +kernel
theorem dX10_floors_69 : decode cX10_floors 69 = .ok (.getfield 88, 3) := by decide +kernel
theorem dX10_floors_72 : decode cX10_floors 72 = .ok (.iconst 1, 1) := by decide +kernel
theorem dX10_floors_73 : decode cX10_floors 73 = .ok (.iadd, 1) := by decide +kernel
theorem dX10_floors_74 : decode cX10_floors 74 = .ok (.putfield 88, 3) := by decide +kernel
theorem dX10_floors_77 : decode cX10_floors 77 = .ok (.iconst 1, 1) := by decide +kernel
theorem dX10_floors_78 : decode cX10_floors 78 = .ok (.ireturn, 1) := by decide +kernel
theorem dX10_readsFloor_0 : decode cX10_readsFloor 0 = .ok (.aload_n 0, 1) := by decide +kernel
theorem dX10_readsFloor_1 : decode cX10_readsFloor 1 = .ok (.invokevirtual 91, 3) := by decide +kernel
theorem dX10_readsFloor_4 : decode cX10_readsFloor 4 = .ok (.ifCond .eq 22, 3) := by decide +kernel
theorem dX10_readsFloor_7 : decode cX10_readsFloor 7 = .ok (.aload_n 0, 1) := by decide +kernel
theorem dX10_readsFloor_8 : decode cX10_readsFloor 8 = .ok (.aload_n 0, 1) := by decide +kernel
theorem dX10_readsFloor_9 : decode cX10_readsFloor 9 = .ok (.getfield 35, 3) := by decide +kernel
theorem dX10_readsFloor_12 : decode cX10_readsFloor 12 = .ok (.aload_n 0, 1) := by decide +kernel
theorem dX10_readsFloor_13 : decode cX10_readsFloor 13 = .ok (.getfield 39, 3) := by decide +kernel
theorem dX10_readsFloor_16 : decode cX10_readsFloor 16 = .ok (.iaload, 1) := by decide +kernel
theorem dX10_readsFloor_17 : decode cX10_readsFloor 17 = .ok (.bipush 48, 2) := by decide +kernel
theorem dX10_readsFloor_19 : decode cX10_readsFloor 19 = .ok (.isub, 1) := by decide +kernel
theorem dX10_readsFloor_20 : decode cX10_readsFloor 20 = .ok (.invokevirtual 95, 3) := by decide +kernel
theorem dX10_readsFloor_23 : decode cX10_readsFloor 23 = .ok (.ifCond .ne 5, 3) := by decide +kernel
theorem dX10_readsFloor_26 : decode cX10_readsFloor 26 = .ok (.iconst (-1), 1) := by decide +kernel
theorem dX10_readsFloor_27 : decode cX10_readsFloor 27 = .ok (.ireturn, 1) := by decide +kernel
theorem dX10_readsFloor_28 : decode cX10_readsFloor 28 = .ok (.aload_n 0, 1) := by decide +kernel
theorem dX10_readsFloor_29 : decode cX10_readsFloor 29 = .ok (.dup, 1) := by decide +kernel
theorem dX10_readsFloor_30 : decode cX10_readsFloor 30 = .ok (.getfield 39, 3) := by decide +kernel
theorem dX10_readsFloor_33 : decode cX10_readsFloor 33 = .ok (.iconst 1, 1) := by decide +kernel
theorem dX10_readsFloor_34 : decode cX10_readsFloor 34 = .ok (.iadd, 1) := by decide +kernel
theorem dX10_readsFloor_35 : decode cX10_readsFloor 35 = .ok (.putfield 39, 3) := by decide +kernel
theorem dX10_readsFloor_38 : decode cX10_readsFloor 38 = .ok (.aload_n 0, 1) := by decide +kernel
theorem dX10_readsFloor_39 : decode cX10_readsFloor 39 = .ok (.getfield 35, 3) := by decide +kernel
theorem dX10_readsFloor_42 : decode cX10_readsFloor 42 = .ok (.aload_n 0, 1) := by decide +kernel
theorem dX10_readsFloor_43 : decode cX10_readsFloor 43 = .ok (.getfield 39, 3) := by decide +kernel
theorem dX10_readsFloor_46 : decode cX10_readsFloor 46 = .ok (.iconst 1, 1) := by decide +kernel
theorem dX10_readsFloor_47 : decode cX10_readsFloor 47 = .ok (.isub, 1) := by decide +kernel
theorem dX10_readsFloor_48 : decode cX10_readsFloor 48 = .ok (.iaload, 1) := by decide +kernel
theorem dX10_readsFloor_49 : decode cX10_readsFloor 49 = .ok (.bipush 48, 2) := by decide +kernel
theorem dX10_readsFloor_51 : decode cX10_readsFloor 51 = .ok (.isub, 1) := by decide +kernel
theorem dX10_readsFloor_52 : decode cX10_readsFloor 52 = .ok (.ireturn, 1) := by decide +kernel
theorem dX10_readsRider_0 : decode cX10_readsRider 0 = .ok (.aload_n 0, 1) := by decide +kernel
theorem dX10_readsRider_1 : decode cX10_readsRider 1 = .ok (.getfield 29, 3) := by decide +kernel
theorem dX10_readsRider_4 : decode cX10_readsRider 4 = .ok (.aload_n 0, 1) := by decide +kernel
theorem dX10_readsRider_5 : decode cX10_readsRider 5 = .ok (.getfield 99, 3) := by decide +kernel
theorem dX10_readsRider_8 : decode cX10_readsRider 8 = .ok (.iadd, 1) := by decide +kernel
theorem dX10_readsRider_9 : decode cX10_readsRider 9 = .ok (.istore_n 1, 1) := by decide +kernel
theorem dX10_readsRider_10 : decode cX10_readsRider 10 = .ok (.iload_n 1, 1) := by decide +kernel
theorem dX10_readsRider_11 : decode cX10_readsRider 11 = .ok (.bipush 10, 2) := by decide +kernel
theorem dX10_readsRider_13 : decode cX10_readsRider 13 = .ok (.if_icmp .ne 5, 3) := by decide +kernel
theorem dX10_readsRider_16 : decode cX10_readsRider 16 = .ok (.iconst 0, 1) := by decide +kernel
theorem dX10_readsRider_17 : decode cX10_readsRider 17 = .ok (.ireturn, 1) := by decide +kernel
theorem dX10_readsRider_18 : decode cX10_readsRider 18 = .ok (.aload_n 0, 1) := by decide +kernel
theorem dX10_readsRider_19 : decode cX10_readsRider 19 = .ok (.getfield 102, 3) := by decide +kernel
theorem dX10_readsRider_22 : decode cX10_readsRider 22 = .ok (.iload_n 1, 1) := by decide +kernel
theorem dX10_readsRider_23 : decode cX10_readsRider 23 = .ok (.aload_n 0, 1) := by decide +kernel
theorem dX10_readsRider_24 : decode cX10_readsRider 24 = .ok (.invokevirtual 105, 3) := by decide +kernel
theorem dX10_readsRider_27 : decode cX10_readsRider 27 = .ok (.iastore, 1) := by decide +kernel
theorem dX10_readsRider_28 : decode cX10_readsRider 28 = .ok (.aload_n 0, 1) := by decide +kernel
theorem dX10_readsRider_29 : decode cX10_readsRider 29 = .ok (.getfield 102, 3) := by decide +kernel
theorem dX10_readsRider_32 : decode cX10_readsRider 32 = .ok (.iload_n 1, 1) := by decide +kernel
theorem dX10_readsRider_33 : decode cX10_readsRider 33 = .ok (.iaload, 1) := by decide +kernel
theorem dX10_readsRider_34 : decode cX10_readsRider 34 = .ok (.ifCond .lt 12, 3) := by decide +kernel
theorem dX10_readsRider_37 : decode cX10_readsRider 37 = .ok (.aload_n 0, 1) := by decide +kernel
theorem dX10_readsRider_38 : decode cX10_readsRider 38 = .ok (.bipush 62, 2) := by decide +kernel
theorem dX10_readsRider_40 : decode cX10_readsRider 40 = .ok (.invokevirtual 108, 3) := by decide +kernel
theorem dX10_readsRider_43 : decode cX10_readsRider 43 = .ok (.ifCond .ne 5, 3) := by decide +kernel
theorem dX10_readsRider_46 : decode cX10_readsRider 46 = .ok (.iconst 0, 1) := by decide +kernel
theorem dX10_readsRider_47 : decode cX10_readsRider 47 = .ok (.ireturn, 1) := by decide +kernel
theorem dX10_readsRider_48 : decode cX10_readsRider 48 = .ok (.aload_n 0, 1) := by decide +kernel
theorem dX10_readsRider_49 : decode cX10_readsRider 49 = .ok (.getfield 111, 3) := by decide +kernel
theorem dX10_readsRider_52 : decode cX10_readsRider 52 = .ok (.iload_n 1, 1) := by decide +kernel
theorem dX10_readsRider_53 : decode cX10_readsRider 53 = .ok (.iconst (-1), 1) := by decide +kernel
theorem dX10_readsRider_54 : decode cX10_readsRider 54 = .ok (.iastore, 1) := by decide +kernel
theorem dX10_readsRider_55 : decode cX10_readsRider 55 = .ok (.aload_n 0, 1) := by decide +kernel
theorem dX10_readsRider_56 : decode cX10_readsRider 56 = .ok (.bipush 45, 2) := by decide +kernel
theorem dX10_readsRider_58 : decode cX10_readsRider 58 = .ok (.invokevirtual 108, 3) := by decide +kernel
theorem dX10_readsRider_61 : decode cX10_readsRider 61 = .ok (.ifCond .ne 24, 3) := by decide +kernel
theorem dX10_readsRider_64 : decode cX10_readsRider 64 = .ok (.aload_n 0, 1) := by decide +kernel
theorem dX10_readsRider_65 : decode cX10_readsRider 65 = .ok (.getfield 111, 3) := by decide +kernel
theorem dX10_readsRider_68 : decode cX10_readsRider 68 = .ok (.iload_n 1, 1) := by decide +kernel
theorem dX10_readsRider_69 : decode cX10_readsRider 69 = .ok (.aload_n 0, 1) := by decide +kernel
theorem dX10_readsRider_70 : decode cX10_readsRider 70 = .ok (.invokevirtual 105, 3) := by decide +kernel
theorem dX10_readsRider_73 : decode cX10_readsRider 73 = .ok (.iastore, 1) := by decide +kernel
theorem dX10_readsRider_74 : decode cX10_readsRider 74 = .ok (.aload_n 0, 1) := by decide +kernel
theorem dX10_readsRider_75 : decode cX10_readsRider 75 = .ok (.getfield 111, 3) := by decide +kernel
theorem dX10_readsRider_78 : decode cX10_readsRider 78 = .ok (.iload_n 1, 1) := by decide +kernel
theorem dX10_readsRider_79 : decode cX10_readsRider 79 = .ok (.iaload, 1) := by decide +kernel
theorem dX10_readsRider_80 : decode cX10_readsRider 80 = .ok (.ifCond .ge 5, 3) := by decide +kernel
theorem dX10_readsRider_83 : decode cX10_readsRider 83 = .ok (.iconst 0, 1) := by decide +kernel
theorem dX10_readsRider_84 : decode cX10_readsRider 84 = .ok (.ireturn, 1) := by decide +kernel
theorem dX10_readsRider_85 : decode cX10_readsRider 85 = .ok (.aload_n 0, 1) := by decide +kernel
theorem dX10_readsRider_86 : decode cX10_readsRider 86 = .ok (.bipush 64, 2) := by decide +kernel
theorem dX10_readsRider_88 : decode cX10_readsRider 88 = .ok (.invokevirtual 108, 3) := by decide +kernel
theorem dX10_readsRider_91 : decode cX10_readsRider 91 = .ok (.ifCond .ne 5, 3) := by decide +kernel
theorem dX10_readsRider_94 : decode cX10_readsRider 94 = .ok (.iconst 0, 1) := by decide +kernel
theorem dX10_readsRider_95 : decode cX10_readsRider 95 = .ok (.ireturn, 1) := by decide +kernel
theorem dX10_readsRider_96 : decode cX10_readsRider 96 = .ok (.aload_n 0, 1) := by decide +kernel
theorem dX10_readsRider_97 : decode cX10_readsRider 97 = .ok (.getfield 114, 3) := by decide +kernel
theorem dX10_readsRider_100 : decode cX10_readsRider 100 = .ok (.iload_n 1, 1) := by decide +kernel
theorem dX10_readsRider_101 : decode cX10_readsRider 101 = .ok (.aload_n 0, 1) := by decide +kernel
theorem dX10_readsRider_102 : decode cX10_readsRider 102 = .ok (.invokevirtual 105, 3) := by decide +kernel
theorem dX10_readsRider_105 : decode cX10_readsRider 105 = .ok (.iastore, 1) := by decide +kernel
theorem dX10_readsRider_106 : decode cX10_readsRider 106 = .ok (.aload_n 0, 1) := by decide +kernel
theorem dX10_readsRider_107 : decode cX10_readsRider 107 = .ok (.getfield 114, 3) := by decide +kernel
theorem dX10_readsRider_110 : decode cX10_readsRider 110 = .ok (.iload_n 1, 1) := by decide +kernel
theorem dX10_readsRider_111 : decode cX10_readsRider 111 = .ok (.iaload, 1) := by decide +kernel
theorem dX10_readsRider_112 : decode cX10_readsRider 112 = .ok (.ifCond .ge 5, 3) := by decide +kernel
theorem dX10_readsRider_115 : decode cX10_readsRider 115 = .ok (.iconst 0, 1) := by decide +kernel
theorem dX10_readsRider_116 : decode cX10_readsRider 116 = .ok (.ireturn, 1) := by decide +kernel
theorem dX10_readsRider_117 : decode cX10_readsRider 117 = .ok (.aload_n 0, 1) := by decide +kernel
theorem dX10_readsRider_118 : decode cX10_readsRider 118 = .ok (.getfield 114, 3) := by decide +kernel
theorem dX10_readsRider_121 : decode cX10_readsRider 121 = .ok (.iload_n 1, 1) := by decide +kernel
theorem dX10_readsRider_122 : decode cX10_readsRider 122 = .ok (.iaload, 1) := by decide +kernel
theorem dX10_readsRider_123 : decode cX10_readsRider 123 = .ok (.aload_n 0, 1) := by decide +kernel
theorem dX10_readsRider_124 : decode cX10_readsRider 124 = .ok (.getfield 79, 3) := by decide +kernel
theorem dX10_readsRider_127 : decode cX10_readsRider 127 = .ok (.bipush 31, 2) := by decide +kernel
theorem dX10_readsRider_129 : decode cX10_readsRider 129 = .ok (.iaload, 1) := by decide +kernel
theorem dX10_readsRider_130 : decode cX10_readsRider 130 = .ok (.if_icmp .ne 24, 3) := by decide +kernel
theorem dX10_readsRider_133 : decode cX10_readsRider 133 = .ok (.aload_n 0, 1) := by decide +kernel
theorem dX10_readsRider_134 : decode cX10_readsRider 134 = .ok (.bipush 33, 2) := by decide +kernel
theorem dX10_readsRider_136 : decode cX10_readsRider 136 = .ok (.invokevirtual 108, 3) := by decide +kernel
theorem dX10_readsRider_139 : decode cX10_readsRider 139 = .ok (.ifCond .eq 15, 3) := by decide +kernel
theorem dX10_readsRider_142 : decode cX10_readsRider 142 = .ok (.aload_n 0, 1) := by decide +kernel
theorem dX10_readsRider_143 : decode cX10_readsRider 143 = .ok (.dup, 1) := by decide +kernel
theorem dX10_readsRider_144 : decode cX10_readsRider 144 = .ok (.getfield 117, 3) := by decide +kernel
theorem dX10_readsRider_147 : decode cX10_readsRider 147 = .ok (.iconst 1, 1) := by decide +kernel
theorem dX10_readsRider_148 : decode cX10_readsRider 148 = .ok (.iload_n 1, 1) := by decide +kernel
theorem dX10_readsRider_149 : decode cX10_readsRider 149 = .ok (.ishl, 1) := by decide +kernel
theorem dX10_readsRider_150 : decode cX10_readsRider 150 = .ok (.ior, 1) := by decide +kernel
theorem dX10_readsRider_151 : decode cX10_readsRider 151 = .ok (.putfield 117, 3) := by decide +kernel
theorem dX10_readsRider_154 : decode cX10_readsRider 154 = .ok (.aload_n 0, 1) := by decide +kernel
theorem dX10_readsRider_155 : decode cX10_readsRider 155 = .ok (.dup, 1) := by decide +kernel
theorem dX10_readsRider_156 : decode cX10_readsRider 156 = .ok (.getfield 99, 3) := by decide +kernel
theorem dX10_readsRider_159 : decode cX10_readsRider 159 = .ok (.iconst 1, 1) := by decide +kernel
theorem dX10_readsRider_160 : decode cX10_readsRider 160 = .ok (.iadd, 1) := by decide +kernel
theorem dX10_readsRider_161 : decode cX10_readsRider 161 = .ok (.putfield 99, 3) := by decide +kernel
theorem dX10_readsRider_164 : decode cX10_readsRider 164 = .ok (.iconst 1, 1) := by decide +kernel
theorem dX10_readsRider_165 : decode cX10_readsRider 165 = .ok (.ireturn, 1) := by decide +kernel
theorem dX10_house_0 : decode cX10_house 0 = .ok (.aload_n 0, 1) := by decide +kernel
theorem dX10_house_1 : decode cX10_house 1 = .ok (.iconst 0, 1) := by decide +kernel
theorem dX10_house_2 : decode cX10_house 2 = .ok (.putfield 3, 3) := by decide +kernel
theorem dX10_house_5 : decode cX10_house 5 = .ok (.aload_n 0, 1) := by decide +kernel
theorem dX10_house_6 : decode cX10_house 6 = .ok (.bipush 76, 2) := by decide +kernel
theorem dX10_house_8 : decode cX10_house 8 = .ok (.invokevirtual 120, 3) := by decide +kernel
theorem dX10_house_11 : decode cX10_house 11 = .ok (.istore_n 1, 1) := by decide +kernel
theorem dX10_house_12 : decode cX10_house 12 = .ok (.aload_n 0, 1) := by decide +kernel
theorem dX10_house_13 : decode cX10_house 13 = .ok (.iconst 0, 1) := by decide +kernel
theorem dX10_house_14 : decode cX10_house 14 = .ok (.putfield 99, 3) := by decide +kernel
theorem dX10_house_17 : decode cX10_house 17 = .ok (.aload_n 0, 1) := by decide +kernel
theorem dX10_house_18 : decode cX10_house 18 = .ok (.iconst 0, 1) := by decide +kernel
theorem dX10_house_19 : decode cX10_house 19 = .ok (.putfield 117, 3) := by decide +kernel
theorem dX10_house_22 : decode cX10_house 22 = .ok (.iconst 1, 1) := by decide +kernel
theorem dX10_house_23 : decode cX10_house 23 = .ok (.istore_n 2, 1) := by decide +kernel
theorem dX10_house_24 : decode cX10_house 24 = .ok (.iload_n 1, 1) := by decide +kernel
theorem dX10_house_25 : decode cX10_house 25 = .ok (.ifCond .le 7, 3) := by decide +kernel
theorem dX10_house_28 : decode cX10_house 28 = .ok (.iconst 1, 1) := by decide +kernel
theorem dX10_house_29 : decode cX10_house 29 = .ok (.goto 4, 3) := by decide +kernel
theorem dX10_house_32 : decode cX10_house 32 = .ok (.iconst 0, 1) := by decide +kernel
theorem dX10_house_33 : decode cX10_house 33 = .ok (.istore_n 3, 1) := by decide +kernel
theorem dX10_house_34 : decode cX10_house 34 = .ok (.iload_n 3, 1) := by decide +kernel
theorem dX10_house_35 : decode cX10_house 35 = .ok (.ifCond .eq 30, 3) := by decide +kernel
theorem dX10_house_38 : decode cX10_house 38 = .ok (.aload_n 0, 1) := by decide +kernel
theorem dX10_house_39 : decode cX10_house 39 = .ok (.invokevirtual 124, 3) := by decide +kernel
theorem dX10_house_42 : decode cX10_house 42 = .ok (.istore_n 2, 1) := by decide +kernel
theorem dX10_house_43 : decode cX10_house 43 = .ok (.iload_n 2, 1) := by decide +kernel
theorem dX10_house_44 : decode cX10_house 44 = .ok (.ifCond .eq 16, 3) := by decide +kernel
theorem dX10_house_47 : decode cX10_house 47 = .ok (.aload_n 0, 1) := by decide +kernel
theorem dX10_house_48 : decode cX10_house 48 = .ok (.bipush 59, 2) := by decide +kernel
theorem dX10_house_50 : decode cX10_house 50 = .ok (.invokevirtual 108, 3) := by decide +kernel
theorem dX10_house_53 : decode cX10_house 53 = .ok (.ifCond .eq 7, 3) := by decide +kernel
theorem dX10_house_56 : decode cX10_house 56 = .ok (.iconst 1, 1) := by decide +kernel
theorem dX10_house_57 : decode cX10_house 57 = .ok (.goto 4, 3) := by decide +kernel
theorem dX10_house_60 : decode cX10_house 60 = .ok (.iconst 0, 1) := by decide +kernel
theorem dX10_house_61 : decode cX10_house 61 = .ok (.istore_n 3, 1) := by decide +kernel
theorem dX10_house_62 : decode cX10_house 62 = .ok (.goto (-28), 3) := by decide +kernel
theorem dX10_house_65 : decode cX10_house 65 = .ok (.aload_n 0, 1) := by decide +kernel
theorem dX10_house_66 : decode cX10_house 66 = .ok (.iload_n 1, 1) := by decide +kernel
theorem dX10_house_67 : decode cX10_house 67 = .ok (.bipush 76, 2) := by decide +kernel
theorem dX10_house_69 : decode cX10_house 69 = .ok (.iload_n 2, 1) := by decide +kernel
theorem dX10_house_70 : decode cX10_house 70 = .ok (.invokevirtual 127, 3) := by decide +kernel
theorem dX10_house_73 : decode cX10_house 73 = .ok (.istore 4, 2) := by decide +kernel
theorem dX10_house_75 : decode cX10_house 75 = .ok (.iload 4, 2) := by decide +kernel
theorem dX10_house_77 : decode cX10_house 77 = .ok (.ifCond .ge 6, 3) := by decide +kernel
theorem dX10_house_80 : decode cX10_house 80 = .ok (.iload 4, 2) := by decide +kernel
theorem dX10_house_82 : decode cX10_house 82 = .ok (.ireturn, 1) := by decide +kernel
theorem dX10_house_83 : decode cX10_house 83 = .ok (.aload_n 0, 1) := by decide +kernel
theorem dX10_house_84 : decode cX10_house 84 = .ok (.getfield 29, 3) := by decide +kernel
theorem dX10_house_87 : decode cX10_house 87 = .ok (.istore 5, 2) := by decide +kernel
theorem dX10_house_89 : decode cX10_house 89 = .ok (.iload 5, 2) := by decide +kernel
theorem dX10_house_91 : decode cX10_house 91 = .ok (.aload_n 0, 1) := by decide +kernel
theorem dX10_house_92 : decode cX10_house 92 = .ok (.getfield 29, 3) := by decide +kernel
theorem dX10_house_95 : decode cX10_house 95 = .ok (.aload_n 0, 1) := by decide +kernel
theorem dX10_house_96 : decode cX10_house 96 = .ok (.getfield 99, 3) := by decide +kernel
theorem dX10_house_99 : decode cX10_house 99 = .ok (.iadd, 1) := by decide +kernel
theorem dX10_house_100 : decode cX10_house 100 = .ok (.if_icmp .ge 36, 3) := by decide +kernel
theorem dX10_house_103 : decode cX10_house 103 = .ok (.aload_n 0, 1) := by decide +kernel
theorem dX10_house_104 : decode cX10_house 104 = .ok (.iload 5, 2) := by decide +kernel
theorem dX10_house_106 : decode cX10_house 106 = .ok (.aload_n 0, 1) := by decide +kernel
theorem dX10_house_107 : decode cX10_house 107 = .ok (.getfield 102, 3) := by decide +kernel
theorem dX10_house_110 : decode cX10_house 110 = .ok (.iload 5, 2) := by decide +kernel
theorem dX10_house_112 : decode cX10_house 112 = .ok (.iaload, 1) := by decide +kernel
theorem dX10_house_113 : decode cX10_house 113 = .ok (.aload_n 0, 1) := by decide +kernel
theorem dX10_house_114 : decode cX10_house 114 = .ok (.getfield 111, 3) := by decide +kernel
theorem dX10_house_117 : decode cX10_house 117 = .ok (.iload 5, 2) := by decide +kernel
theorem dX10_house_119 : decode cX10_house 119 = .ok (.iaload, 1) := by decide +kernel
theorem dX10_house_120 : decode cX10_house 120 = .ok (.aload_n 0, 1) := by decide +kernel
theorem dX10_house_121 : decode cX10_house 121 = .ok (.getfield 114, 3) := by decide +kernel
theorem dX10_house_124 : decode cX10_house 124 = .ok (.iload 5, 2) := by decide +kernel
theorem dX10_house_126 : decode cX10_house 126 = .ok (.iaload, 1) := by decide +kernel
theorem dX10_house_127 : decode cX10_house 127 = .ok (.invokevirtual 131, 3) := by decide +kernel
theorem dX10_house_130 : decode cX10_house 130 = .ok (.iinc 5 1, 3) := by decide +kernel
theorem dX10_house_133 : decode cX10_house 133 = .ok (.goto (-44), 3) := by decide +kernel
theorem dX10_house_136 : decode cX10_house 136 = .ok (.aload_n 0, 1) := by decide +kernel
theorem dX10_house_137 : decode cX10_house 137 = .ok (.getfield 79, 3) := by decide +kernel
theorem dX10_house_140 : decode cX10_house 140 = .ok (.bipush 30, 2) := by decide +kernel
theorem dX10_house_142 : decode cX10_house 142 = .ok (.dup2, 1) := by decide +kernel
theorem dX10_house_143 : decode cX10_house 143 = .ok (.iaload, 1) := by decide +kernel
theorem dX10_house_144 : decode cX10_house 144 = .ok (.aload_n 0, 1) := by decide +kernel
theorem dX10_house_145 : decode cX10_house 145 = .ok (.getfield 117, 3) := by decide +kernel
theorem dX10_house_148 : decode cX10_house 148 = .ok (.ior, 1) := by decide +kernel
theorem dX10_house_149 : decode cX10_house 149 = .ok (.iastore, 1) := by decide +kernel
theorem dX10_house_150 : decode cX10_house 150 = .ok (.aload_n 0, 1) := by decide +kernel
theorem dX10_house_151 : decode cX10_house 151 = .ok (.dup, 1) := by decide +kernel
theorem dX10_house_152 : decode cX10_house 152 = .ok (.getfield 29, 3) := by decide +kernel
theorem dX10_house_155 : decode cX10_house 155 = .ok (.aload_n 0, 1) := by decide +kernel
theorem dX10_house_156 : decode cX10_house 156 = .ok (.getfield 99, 3) := by decide +kernel
theorem dX10_house_159 : decode cX10_house 159 = .ok (.iadd, 1) := by decide +kernel
theorem dX10_house_160 : decode cX10_house 160 = .ok (.putfield 29, 3) := by decide +kernel
theorem dX10_house_163 : decode cX10_house 163 = .ok (.iload_n 1, 1) := by decide +kernel
theorem dX10_house_164 : decode cX10_house 164 = .ok (.ifCond .le 18, 3) := by decide +kernel
theorem dX10_house_167 : decode cX10_house 167 = .ok (.aload_n 0, 1) := by decide +kernel
theorem dX10_house_168 : decode cX10_house 168 = .ok (.iconst 0, 1) := by decide +kernel
theorem dX10_house_169 : decode cX10_house 169 = .ok (.putfield 82, 3) := by decide +kernel
theorem dX10_house_172 : decode cX10_house 172 = .ok (.aload_n 0, 1) := by decide +kernel
theorem dX10_house_173 : decode cX10_house 173 = .ok (.dup, 1) := by decide +kernel
theorem dX10_house_174 : decode cX10_house 174 = .ok (.getfield 88, 3) := by decide +kernel
theorem dX10_house_177 : decode cX10_house 177 = .ok (.iconst 1, 1) := by decide +kernel
theorem dX10_house_178 : decode cX10_house 178 = .ok (.iadd, 1) := by decide +kernel
theorem dX10_house_179 : decode cX10_house 179 = .ok (.putfield 88, 3) := by decide +kernel
theorem dX10_house_182 : decode cX10_house 182 = .ok (.aload_n 0, 1) := by decide +kernel
theorem dX10_house_183 : decode cX10_house 183 = .ok (.getfield 99, 3) := by decide +kernel
theorem dX10_house_186 : decode cX10_house 186 = .ok (.ireturn, 1) := by decide +kernel
theorem dX10_comes_0 : decode cX10_comes 0 = .ok (.aload_n 0, 1) := by decide +kernel
theorem dX10_comes_1 : decode cX10_comes 1 = .ok (.getfield 135, 3) := by decide +kernel
theorem dX10_comes_4 : decode cX10_comes 4 = .ok (.iload_n 1, 1) := by decide +kernel
theorem dX10_comes_5 : decode cX10_comes 5 = .ok (.iload_n 2, 1) := by decide +kernel
theorem dX10_comes_6 : decode cX10_comes 6 = .ok (.iastore, 1) := by decide +kernel
theorem dX10_comes_7 : decode cX10_comes 7 = .ok (.aload_n 0, 1) := by decide +kernel
theorem dX10_comes_8 : decode cX10_comes 8 = .ok (.getfield 138, 3) := by decide +kernel
theorem dX10_comes_11 : decode cX10_comes 11 = .ok (.iload_n 1, 1) := by decide +kernel
theorem dX10_comes_12 : decode cX10_comes 12 = .ok (.bipush 10, 2) := by decide +kernel
theorem dX10_comes_14 : decode cX10_comes 14 = .ok (.iastore, 1) := by decide +kernel
theorem dX10_comes_15 : decode cX10_comes 15 = .ok (.aload_n 0, 1) := by decide +kernel
theorem dX10_comes_16 : decode cX10_comes 16 = .ok (.getfield 79, 3) := by decide +kernel
theorem dX10_comes_19 : decode cX10_comes 19 = .ok (.iload_n 1, 1) := by decide +kernel
theorem dX10_comes_20 : decode cX10_comes 20 = .ok (.iload 4, 2) := by decide +kernel
theorem dX10_comes_22 : decode cX10_comes 22 = .ok (.iastore, 1) := by decide +kernel
theorem dX10_comes_23 : decode cX10_comes 23 = .ok (.aload_n 0, 1) := by decide +kernel
theorem dX10_comes_24 : decode cX10_comes 24 = .ok (.getfield 79, 3) := by decide +kernel
theorem dX10_comes_27 : decode cX10_comes 27 = .ok (.bipush 10, 2) := by decide +kernel
theorem dX10_comes_29 : decode cX10_comes 29 = .ok (.iload_n 1, 1) := by decide +kernel
theorem dX10_comes_30 : decode cX10_comes 30 = .ok (.iadd, 1) := by decide +kernel
theorem dX10_comes_31 : decode cX10_comes 31 = .ok (.iload_n 3, 1) := by decide +kernel
theorem dX10_comes_32 : decode cX10_comes 32 = .ok (.iastore, 1) := by decide +kernel
theorem dX10_comes_33 : decode cX10_comes 33 = .ok (.aload_n 0, 1) := by decide +kernel
theorem dX10_comes_34 : decode cX10_comes 34 = .ok (.getfield 79, 3) := by decide +kernel
theorem dX10_comes_37 : decode cX10_comes 37 = .ok (.bipush 20, 2) := by decide +kernel
theorem dX10_comes_39 : decode cX10_comes 39 = .ok (.iload_n 1, 1) := by decide +kernel
theorem dX10_comes_40 : decode cX10_comes 40 = .ok (.iadd, 1) := by decide +kernel
theorem dX10_comes_41 : decode cX10_comes 41 = .ok (.iconst 0, 1) := by decide +kernel
theorem dX10_comes_42 : decode cX10_comes 42 = .ok (.iastore, 1) := by decide +kernel
theorem dX10_comes_43 : decode cX10_comes 43 = .ok (.return_, 1) := by decide +kernel
theorem dX10_codes_0 : decode cX10_codes 0 = .ok (.aload_n 0, 1) := by decide +kernel
theorem dX10_codes_1 : decode cX10_codes 1 = .ok (.getfield 141, 3) := by decide +kernel
theorem dX10_codes_4 : decode cX10_codes 4 = .ok (.aload_n 0, 1) := by decide +kernel
theorem dX10_codes_5 : decode cX10_codes 5 = .ok (.getfield 144, 3) := by decide +kernel
theorem dX10_codes_8 : decode cX10_codes 8 = .ok (.iload_n 1, 1) := by decide +kernel
theorem dX10_codes_9 : decode cX10_codes 9 = .ok (.iastore, 1) := by decide +kernel
theorem dX10_codes_10 : decode cX10_codes 10 = .ok (.aload_n 0, 1) := by decide +kernel
theorem dX10_codes_11 : decode cX10_codes 11 = .ok (.dup, 1) := by decide +kernel
theorem dX10_codes_12 : decode cX10_codes 12 = .ok (.getfield 144, 3) := by decide +kernel
theorem dX10_codes_15 : decode cX10_codes 15 = .ok (.iconst 1, 1) := by decide +kernel
theorem dX10_codes_16 : decode cX10_codes 16 = .ok (.iadd, 1) := by decide +kernel
theorem dX10_codes_17 : decode cX10_codes 17 = .ok (.putfield 144, 3) := by decide +kernel
theorem dX10_codes_20 : decode cX10_codes 20 = .ok (.return_, 1) := by decide +kernel
theorem dX10_readsThing_0 : decode cX10_readsThing 0 = .ok (.aload_n 0, 1) := by decide +kernel
theorem dX10_readsThing_1 : decode cX10_readsThing 1 = .ok (.bipush 45, 2) := by decide +kernel
theorem dX10_readsThing_3 : decode cX10_readsThing 3 = .ok (.invokevirtual 108, 3) := by decide +kernel
theorem dX10_readsThing_6 : decode cX10_readsThing 6 = .ok (.ifCond .eq 17, 3) := by decide +kernel
theorem dX10_readsThing_9 : decode cX10_readsThing 9 = .ok (.aload_n 0, 1) := by decide +kernel
theorem dX10_readsThing_10 : decode cX10_readsThing 10 = .ok (.invokevirtual 147, 3) := by decide +kernel
theorem dX10_readsThing_13 : decode cX10_readsThing 13 = .ok (.istore_n 1, 1) := by decide +kernel
theorem dX10_readsThing_14 : decode cX10_readsThing 14 = .ok (.aload_n 0, 1) := by decide +kernel
theorem dX10_readsThing_15 : decode cX10_readsThing 15 = .ok (.sipush 3000, 3) := by decide +kernel
theorem dX10_readsThing_18 : decode cX10_readsThing 18 = .ok (.invokevirtual 150, 3) := by decide +kernel
theorem dX10_readsThing_21 : decode cX10_readsThing 21 = .ok (.iload_n 1, 1) := by decide +kernel
theorem dX10_readsThing_22 : decode cX10_readsThing 22 = .ok (.ireturn, 1) := by decide +kernel
theorem dX10_readsThing_23 : decode cX10_readsThing 23 = .ok (.aload_n 0, 1) := by decide +kernel
theorem dX10_readsThing_24 : decode cX10_readsThing 24 = .ok (.invokevirtual 91, 3) := by decide +kernel
theorem dX10_readsThing_27 : decode cX10_readsThing 27 = .ok (.ifCond .eq 60, 3) := by decide +kernel
theorem dX10_readsThing_30 : decode cX10_readsThing 30 = .ok (.iconst 0, 1) := by decide +kernel
theorem dX10_readsThing_31 : decode cX10_readsThing 31 = .ok (.istore_n 1, 1) := by decide +kernel
theorem dX10_readsThing_32 : decode cX10_readsThing 32 = .ok (.iconst 0, 1) := by decide +kernel
theorem dX10_readsThing_33 : decode cX10_readsThing 33 = .ok (.istore_n 2, 1) := by decide +kernel
theorem dX10_readsThing_34 : decode cX10_readsThing 34 = .ok (.iload_n 2, 1) := by decide +kernel
theorem dX10_readsThing_35 : decode cX10_readsThing 35 = .ok (.iconst 3, 1) := by decide +kernel
theorem dX10_readsThing_36 : decode cX10_readsThing 36 = .ok (.if_icmp .ge 44, 3) := by decide +kernel
theorem dX10_readsThing_39 : decode cX10_readsThing 39 = .ok (.aload_n 0, 1) := by decide +kernel
theorem dX10_readsThing_40 : decode cX10_readsThing 40 = .ok (.invokevirtual 91, 3) := by decide +kernel
theorem dX10_readsThing_43 : decode cX10_readsThing 43 = .ok (.ifCond .eq 37, 3) := by decide +kernel
theorem dX10_readsThing_46 : decode cX10_readsThing 46 = .ok (.bipush 10, 2) := by decide +kernel
theorem dX10_readsThing_48 : decode cX10_readsThing 48 = .ok (.iload_n 1, 1) := by decide +kernel
theorem dX10_readsThing_49 : decode cX10_readsThing 49 = .ok (.imul, 1) := by decide +kernel
theorem dX10_readsThing_50 : decode cX10_readsThing 50 = .ok (.aload_n 0, 1) := by decide +kernel
theorem dX10_readsThing_51 : decode cX10_readsThing 51 = .ok (.getfield 35, 3) := by decide +kernel
theorem dX10_readsThing_54 : decode cX10_readsThing 54 = .ok (.aload_n 0, 1) := by decide +kernel
theorem dX10_readsThing_55 : decode cX10_readsThing 55 = .ok (.getfield 39, 3) := by decide +kernel
theorem dX10_readsThing_58 : decode cX10_readsThing 58 = .ok (.iaload, 1) := by decide +kernel
theorem dX10_readsThing_59 : decode cX10_readsThing 59 = .ok (.iadd, 1) := by decide +kernel
theorem dX10_readsThing_60 : decode cX10_readsThing 60 = .ok (.bipush 48, 2) := by decide +kernel
theorem dX10_readsThing_62 : decode cX10_readsThing 62 = .ok (.isub, 1) := by decide +kernel
theorem dX10_readsThing_63 : decode cX10_readsThing 63 = .ok (.istore_n 1, 1) := by decide +kernel
theorem dX10_readsThing_64 : decode cX10_readsThing 64 = .ok (.aload_n 0, 1) := by decide +kernel
theorem dX10_readsThing_65 : decode cX10_readsThing 65 = .ok (.dup, 1) := by decide +kernel
theorem dX10_readsThing_66 : decode cX10_readsThing 66 = .ok (.getfield 39, 3) := by decide +kernel
theorem dX10_readsThing_69 : decode cX10_readsThing 69 = .ok (.iconst 1, 1) := by decide +kernel
theorem dX10_readsThing_70 : decode cX10_readsThing 70 = .ok (.iadd, 1) := by decide +kernel
theorem dX10_readsThing_71 : decode cX10_readsThing 71 = .ok (.putfield 39, 3) := by decide +kernel
theorem dX10_readsThing_74 : decode cX10_readsThing 74 = .ok (.iinc 2 1, 3) := by decide +kernel
theorem dX10_readsThing_77 : decode cX10_readsThing 77 = .ok (.goto (-43), 3) := by decide +kernel
theorem dX10_readsThing_80 : decode cX10_readsThing 80 = .ok (.aload_n 0, 1) := by decide +kernel
theorem dX10_readsThing_81 : decode cX10_readsThing 81 = .ok (.iload_n 1, 1) := by decide +kernel
theorem dX10_readsThing_82 : decode cX10_readsThing 82 = .ok (.invokevirtual 150, 3) := by decide +kernel
theorem dX10_readsThing_85 : decode cX10_readsThing 85 = .ok (.iconst 1, 1) := by decide +kernel
theorem dX10_readsThing_86 : decode cX10_readsThing 86 = .ok (.ireturn, 1) := by decide +kernel
theorem dX10_readsThing_87 : decode cX10_readsThing 87 = .ok (.aload_n 0, 1) := by decide +kernel
theorem dX10_readsThing_88 : decode cX10_readsThing 88 = .ok (.ldc 154, 2) := by decide +kernel
theorem dX10_readsThing_90 : decode cX10_readsThing 90 = .ok (.invokevirtual 156, 3) := by decide +kernel
theorem dX10_readsThing_93 : decode cX10_readsThing 93 = .ok (.istore_n 1, 1) := by decide +kernel
theorem dX10_readsThing_94 : decode cX10_readsThing 94 = .ok (.iload_n 1, 1) := by decide +kernel
theorem dX10_readsThing_95 : decode cX10_readsThing 95 = .ok (.ifCond .lt 24, 3) := by decide +kernel
theorem dX10_readsThing_98 : decode cX10_readsThing 98 = .ok (.aload_n 0, 1) := by decide +kernel
theorem dX10_readsThing_99 : decode cX10_readsThing 99 = .ok (.dup, 1) := by decide +kernel
theorem dX10_readsThing_100 : decode cX10_readsThing 100 = .ok (.getfield 39, 3) := by decide +kernel
theorem dX10_readsThing_103 : decode cX10_readsThing 103 = .ok (.iconst 1, 1) := by decide +kernel
theorem dX10_readsThing_104 : decode cX10_readsThing 104 = .ok (.iadd, 1) := by decide +kernel
theorem dX10_readsThing_105 : decode cX10_readsThing 105 = .ok (.putfield 39, 3) := by decide +kernel
theorem dX10_readsThing_108 : decode cX10_readsThing 108 = .ok (.aload_n 0, 1) := by decide +kernel
theorem dX10_readsThing_109 : decode cX10_readsThing 109 = .ok (.sipush 1000, 3) := by decide +kernel
theorem dX10_readsThing_112 : decode cX10_readsThing 112 = .ok (.iload_n 1, 1) := by decide +kernel
theorem dX10_readsThing_113 : decode cX10_readsThing 113 = .ok (.iadd, 1) := by decide +kernel
theorem dX10_readsThing_114 : decode cX10_readsThing 114 = .ok (.invokevirtual 150, 3) := by decide +kernel
theorem dX10_readsThing_117 : decode cX10_readsThing 117 = .ok (.iconst 1, 1) := by decide +kernel
theorem dX10_readsThing_118 : decode cX10_readsThing 118 = .ok (.ireturn, 1) := by decide +kernel
theorem dX10_readsThing_119 : decode cX10_readsThing 119 = .ok (.aload_n 0, 1) := by decide +kernel
theorem dX10_readsThing_120 : decode cX10_readsThing 120 = .ok (.getfield 42, 3) := by decide +kernel
theorem dX10_readsThing_123 : decode cX10_readsThing 123 = .ok (.iconst 4, 1) := by decide +kernel
theorem dX10_readsThing_124 : decode cX10_readsThing 124 = .ok (.if_icmp .eq 12, 3) := by decide +kernel
theorem dX10_readsThing_127 : decode cX10_readsThing 127 = .ok (.aload_n 0, 1) := by decide +kernel
theorem dX10_readsThing_128 : decode cX10_readsThing 128 = .ok (.bipush 40, 2) := by decide +kernel
theorem dX10_readsThing_130 : decode cX10_readsThing 130 = .ok (.invokevirtual 108, 3) := by decide +kernel
theorem dX10_readsThing_133 : decode cX10_readsThing 133 = .ok (.ifCond .ne 5, 3) := by decide +kernel
theorem dX10_readsThing_136 : decode cX10_readsThing 136 = .ok (.iconst 0, 1) := by decide +kernel
theorem dX10_readsThing_137 : decode cX10_readsThing 137 = .ok (.ireturn, 1) := by decide +kernel
theorem dX10_readsThing_138 : decode cX10_readsThing 138 = .ok (.aload_n 0, 1) := by decide +kernel
theorem dX10_readsThing_139 : decode cX10_readsThing 139 = .ok (.dup, 1) := by decide +kernel
theorem dX10_readsThing_140 : decode cX10_readsThing 140 = .ok (.getfield 42, 3) := by decide +kernel
theorem dX10_readsThing_143 : decode cX10_readsThing 143 = .ok (.iconst 1, 1) := by decide +kernel
theorem dX10_readsThing_144 : decode cX10_readsThing 144 = .ok (.iadd, 1) := by decide +kernel
theorem dX10_readsThing_145 : decode cX10_readsThing 145 = .ok (.putfield 42, 3) := by decide +kernel
theorem dX10_readsThing_148 : decode cX10_readsThing 148 = .ok (.aload_n 0, 1) := by decide +kernel
theorem dX10_readsThing_149 : decode cX10_readsThing 149 = .ok (.iconst 0, 1) := by decide +kernel
theorem dX10_readsThing_150 : decode cX10_readsThing 150 = .ok (.invokevirtual 160, 3) := by decide +kernel
theorem dX10_readsThing_153 : decode cX10_readsThing 153 = .ok (.ifCond .eq 12, 3) := by decide +kernel
theorem dX10_readsThing_156 : decode cX10_readsThing 156 = .ok (.aload_n 0, 1) := by decide +kernel
theorem dX10_readsThing_157 : decode cX10_readsThing 157 = .ok (.bipush 41, 2) := by decide +kernel
theorem dX10_readsThing_159 : decode cX10_readsThing 159 = .ok (.invokevirtual 108, 3) := by decide +kernel
theorem dX10_readsThing_162 : decode cX10_readsThing 162 = .ok (.ifCond .ne 5, 3) := by decide +kernel
theorem dX10_readsThing_165 : decode cX10_readsThing 165 = .ok (.iconst 0, 1) := by decide +kernel
theorem dX10_readsThing_166 : decode cX10_readsThing 166 = .ok (.ireturn, 1) := by decide +kernel
theorem dX10_readsThing_167 : decode cX10_readsThing 167 = .ok (.aload_n 0, 1) := by decide +kernel
theorem dX10_readsThing_168 : decode cX10_readsThing 168 = .ok (.dup, 1) := by decide +kernel
theorem dX10_readsThing_169 : decode cX10_readsThing 169 = .ok (.getfield 42, 3) := by decide +kernel
theorem dX10_readsThing_172 : decode cX10_readsThing 172 = .ok (.iconst 1, 1) := by decide +kernel
theorem dX10_readsThing_173 : decode cX10_readsThing 173 = .ok (.isub, 1) := by decide +kernel
theorem dX10_readsThing_174 : decode cX10_readsThing 174 = .ok (.putfield 42, 3) := by decide +kernel
theorem dX10_readsThing_177 : decode cX10_readsThing 177 = .ok (.iconst 1, 1) := by decide +kernel
theorem dX10_readsThing_178 : decode cX10_readsThing 178 = .ok (.ireturn, 1) := by decide +kernel
theorem dX10_readsRank_0 : decode cX10_readsRank 0 = .ok (.iload_n 1, 1) := by decide +kernel
theorem dX10_readsRank_1 : decode cX10_readsRank 1 = .ok (.iconst 3, 1) := by decide +kernel
theorem dX10_readsRank_2 : decode cX10_readsRank 2 = .ok (.if_icmp .ne 8, 3) := by decide +kernel
theorem dX10_readsRank_5 : decode cX10_readsRank 5 = .ok (.aload_n 0, 1) := by decide +kernel
theorem dX10_readsRank_6 : decode cX10_readsRank 6 = .ok (.invokevirtual 147, 3) := by decide +kernel
theorem dX10_readsRank_9 : decode cX10_readsRank 9 = .ok (.ireturn, 1) := by decide +kernel
theorem dX10_readsRank_10 : decode cX10_readsRank 10 = .ok (.aload_n 0, 1) := by decide +kernel
theorem dX10_readsRank_11 : decode cX10_readsRank 11 = .ok (.iload_n 1, 1) := by decide +kernel
theorem dX10_readsRank_12 : decode cX10_readsRank 12 = .ok (.iconst 1, 1) := by decide +kernel
theorem dX10_readsRank_13 : decode cX10_readsRank 13 = .ok (.iadd, 1) := by decide +kernel
theorem dX10_readsRank_14 : decode cX10_readsRank 14 = .ok (.invokevirtual 160, 3) := by decide +kernel
theorem dX10_readsRank_17 : decode cX10_readsRank 17 = .ok (.ifCond .ne 5, 3) := by decide +kernel
theorem dX10_readsRank_20 : decode cX10_readsRank 20 = .ok (.iconst 0, 1) := by decide +kernel
theorem dX10_readsRank_21 : decode cX10_readsRank 21 = .ok (.ireturn, 1) := by decide +kernel
theorem dX10_readsRank_22 : decode cX10_readsRank 22 = .ok (.iconst 1, 1) := by decide +kernel
theorem dX10_readsRank_23 : decode cX10_readsRank 23 = .ok (.istore_n 2, 1) := by decide +kernel
theorem dX10_readsRank_24 : decode cX10_readsRank 24 = .ok (.iload_n 2, 1) := by decide +kernel
theorem dX10_readsRank_25 : decode cX10_readsRank 25 = .ok (.ifCond .eq 98, 3) := by decide +kernel
theorem dX10_readsRank_28 : decode cX10_readsRank 28 = .ok (.aload_n 0, 1) := by decide +kernel
theorem dX10_readsRank_29 : decode cX10_readsRank 29 = .ok (.iload_n 1, 1) := by decide +kernel
theorem dX10_readsRank_30 : decode cX10_readsRank 30 = .ok (.ifCond .ne 8, 3) := by decide +kernel
theorem dX10_readsRank_33 : decode cX10_readsRank 33 = .ok (.ldc 163, 2) := by decide +kernel
theorem dX10_readsRank_35 : decode cX10_readsRank 35 = .ok (.goto 15, 3) := by decide +kernel
theorem dX10_readsRank_38 : decode cX10_readsRank 38 = .ok (.iload_n 1, 1) := by decide +kernel
theorem dX10_readsRank_39 : decode cX10_readsRank 39 = .ok (.iconst 1, 1) := by decide +kernel
theorem dX10_readsRank_40 : decode cX10_readsRank 40 = .ok (.if_icmp .ne 8, 3) := by decide +kernel
theorem dX10_readsRank_43 : decode cX10_readsRank 43 = .ok (.ldc 165, 2) := by decide +kernel
theorem dX10_readsRank_45 : decode cX10_readsRank 45 = .ok (.goto 5, 3) := by decide +kernel
theorem dX10_readsRank_48 : decode cX10_readsRank 48 = .ok (.ldc 167, 2) := by decide +kernel
theorem dX10_readsRank_50 : decode cX10_readsRank 50 = .ok (.invokevirtual 156, 3) := by decide +kernel
theorem dX10_readsRank_53 : decode cX10_readsRank 53 = .ok (.istore_n 3, 1) := by decide +kernel
theorem dX10_readsRank_54 : decode cX10_readsRank 54 = .ok (.iload_n 3, 1) := by decide +kernel
theorem dX10_readsRank_55 : decode cX10_readsRank 55 = .ok (.ifCond .ge 5, 3) := by decide +kernel
theorem dX10_readsRank_58 : decode cX10_readsRank 58 = .ok (.iconst 1, 1) := by decide +kernel
theorem dX10_readsRank_59 : decode cX10_readsRank 59 = .ok (.ireturn, 1) := by decide +kernel
theorem dX10_readsRank_60 : decode cX10_readsRank 60 = .ok (.aload_n 0, 1) := by decide +kernel
theorem dX10_readsRank_61 : decode cX10_readsRank 61 = .ok (.dup, 1) := by decide +kernel
theorem dX10_readsRank_62 : decode cX10_readsRank 62 = .ok (.getfield 39, 3) := by decide +kernel
theorem dX10_readsRank_65 : decode cX10_readsRank 65 = .ok (.iconst 1, 1) := by decide +kernel
theorem dX10_readsRank_66 : decode cX10_readsRank 66 = .ok (.iadd, 1) := by decide +kernel
theorem dX10_readsRank_67 : decode cX10_readsRank 67 = .ok (.putfield 39, 3) := by decide +kernel
theorem dX10_readsRank_70 : decode cX10_readsRank 70 = .ok (.aload_n 0, 1) := by decide +kernel
theorem dX10_readsRank_71 : decode cX10_readsRank 71 = .ok (.iload_n 1, 1) := by decide +kernel
theorem dX10_readsRank_72 : decode cX10_readsRank 72 = .ok (.iconst 1, 1) := by decide +kernel
theorem dX10_readsRank_73 : decode cX10_readsRank 73 = .ok (.iadd, 1) := by decide +kernel
theorem dX10_readsRank_74 : decode cX10_readsRank 74 = .ok (.invokevirtual 160, 3) := by decide +kernel
theorem dX10_readsRank_77 : decode cX10_readsRank 77 = .ok (.ifCond .ne 5, 3) := by decide +kernel
theorem dX10_readsRank_80 : decode cX10_readsRank 80 = .ok (.iconst 0, 1) := by decide +kernel
theorem dX10_readsRank_81 : decode cX10_readsRank 81 = .ok (.ireturn, 1) := by decide +kernel
theorem dX10_readsRank_82 : decode cX10_readsRank 82 = .ok (.aload_n 0, 1) := by decide +kernel
theorem dX10_readsRank_83 : decode cX10_readsRank 83 = .ok (.sipush 2000, 3) := by decide +kernel
theorem dX10_readsRank_86 : decode cX10_readsRank 86 = .ok (.iload_n 3, 1) := by decide +kernel
theorem dX10_readsRank_87 : decode cX10_readsRank 87 = .ok (.iadd, 1) := by decide +kernel
theorem dX10_readsRank_88 : decode cX10_readsRank 88 = .ok (.iload_n 1, 1) := by decide +kernel
theorem dX10_readsRank_89 : decode cX10_readsRank 89 = .ok (.ifCond .ne 7, 3) := by decide +kernel
theorem dX10_readsRank_92 : decode cX10_readsRank 92 = .ok (.iconst 0, 1) := by decide +kernel
theorem dX10_readsRank_93 : decode cX10_readsRank 93 = .ok (.goto 13, 3) := by decide +kernel
theorem dX10_readsRank_96 : decode cX10_readsRank 96 = .ok (.iload_n 1, 1) := by decide +kernel
theorem dX10_readsRank_97 : decode cX10_readsRank 97 = .ok (.iconst 1, 1) := by decide +kernel
theorem dX10_readsRank_98 : decode cX10_readsRank 98 = .ok (.if_icmp .ne 7, 3) := by decide +kernel
theorem dX10_readsRank_101 : decode cX10_readsRank 101 = .ok (.iconst 3, 1) := by decide +kernel
theorem dX10_readsRank_102 : decode cX10_readsRank 102 = .ok (.goto 4, 3) := by decide +kernel
theorem dX10_readsRank_105 : decode cX10_readsRank 105 = .ok (.iconst 5, 1) := by decide +kernel
theorem dX10_readsRank_106 : decode cX10_readsRank 106 = .ok (.iadd, 1) := by decide +kernel
theorem dX10_readsRank_107 : decode cX10_readsRank 107 = .ok (.invokevirtual 150, 3) := by decide +kernel
theorem dX10_readsRank_110 : decode cX10_readsRank 110 = .ok (.iload_n 1, 1) := by decide +kernel
theorem dX10_readsRank_111 : decode cX10_readsRank 111 = .ok (.ifCond .le 7, 3) := by decide +kernel
theorem dX10_readsRank_114 : decode cX10_readsRank 114 = .ok (.iconst 1, 1) := by decide +kernel
theorem dX10_readsRank_115 : decode cX10_readsRank 115 = .ok (.goto 4, 3) := by decide +kernel
theorem dX10_readsRank_118 : decode cX10_readsRank 118 = .ok (.iconst 0, 1) := by decide +kernel
theorem dX10_readsRank_119 : decode cX10_readsRank 119 = .ok (.istore_n 2, 1) := by decide +kernel
theorem dX10_readsRank_120 : decode cX10_readsRank 120 = .ok (.goto (-96), 3) := by decide +kernel
theorem dX10_readsRank_123 : decode cX10_readsRank 123 = .ok (.iconst 1, 1) := by decide +kernel
theorem dX10_readsRank_124 : decode cX10_readsRank 124 = .ok (.ireturn, 1) := by decide +kernel
theorem dX10_law_0 : decode cX10_law 0 = .ok (.aload_n 0, 1) := by decide +kernel
theorem dX10_law_1 : decode cX10_law 1 = .ok (.iconst 0, 1) := by decide +kernel
theorem dX10_law_2 : decode cX10_law 2 = .ok (.putfield 3, 3) := by decide +kernel
theorem dX10_law_5 : decode cX10_law 5 = .ok (.aload_n 0, 1) := by decide +kernel
theorem dX10_law_6 : decode cX10_law 6 = .ok (.bipush 40, 2) := by decide +kernel
theorem dX10_law_8 : decode cX10_law 8 = .ok (.invokevirtual 120, 3) := by decide +kernel
theorem dX10_law_11 : decode cX10_law 11 = .ok (.istore_n 1, 1) := by decide +kernel
theorem dX10_law_12 : decode cX10_law 12 = .ok (.aload_n 0, 1) := by decide +kernel
theorem dX10_law_13 : decode cX10_law 13 = .ok (.iconst 0, 1) := by decide +kernel
theorem dX10_law_14 : decode cX10_law 14 = .ok (.putfield 144, 3) := by decide +kernel
theorem dX10_law_17 : decode cX10_law 17 = .ok (.iload_n 1, 1) := by decide +kernel
theorem dX10_law_18 : decode cX10_law 18 = .ok (.ifCond .eq 11, 3) := by decide +kernel
theorem dX10_law_21 : decode cX10_law 21 = .ok (.aload_n 0, 1) := by decide +kernel
theorem dX10_law_22 : decode cX10_law 22 = .ok (.iconst 0, 1) := by decide +kernel
theorem dX10_law_23 : decode cX10_law 23 = .ok (.invokevirtual 160, 3) := by decide +kernel
theorem dX10_law_26 : decode cX10_law 26 = .ok (.ifCond .eq 7, 3) := by decide +kernel
theorem dX10_law_29 : decode cX10_law 29 = .ok (.iconst 1, 1) := by decide +kernel
theorem dX10_law_30 : decode cX10_law 30 = .ok (.goto 4, 3) := by decide +kernel
theorem dX10_law_33 : decode cX10_law 33 = .ok (.iconst 0, 1) := by decide +kernel
theorem dX10_law_34 : decode cX10_law 34 = .ok (.istore_n 2, 1) := by decide +kernel
theorem dX10_law_35 : decode cX10_law 35 = .ok (.aload_n 0, 1) := by decide +kernel
theorem dX10_law_36 : decode cX10_law 36 = .ok (.iload_n 1, 1) := by decide +kernel
theorem dX10_law_37 : decode cX10_law 37 = .ok (.bipush 40, 2) := by decide +kernel
theorem dX10_law_39 : decode cX10_law 39 = .ok (.iload_n 2, 1) := by decide +kernel
theorem dX10_law_40 : decode cX10_law 40 = .ok (.invokevirtual 127, 3) := by decide +kernel
theorem dX10_law_43 : decode cX10_law 43 = .ok (.istore_n 3, 1) := by decide +kernel
theorem dX10_law_44 : decode cX10_law 44 = .ok (.iload_n 3, 1) := by decide +kernel
theorem dX10_law_45 : decode cX10_law 45 = .ok (.ifCond .ge 5, 3) := by decide +kernel
theorem dX10_law_48 : decode cX10_law 48 = .ok (.iload_n 3, 1) := by decide +kernel
theorem dX10_law_49 : decode cX10_law 49 = .ok (.ireturn, 1) := by decide +kernel
theorem dX10_law_50 : decode cX10_law 50 = .ok (.aload_n 0, 1) := by decide +kernel
theorem dX10_law_51 : decode cX10_law 51 = .ok (.aload_n 0, 1) := by decide +kernel
theorem dX10_law_52 : decode cX10_law 52 = .ok (.getfield 144, 3) := by decide +kernel
theorem dX10_law_55 : decode cX10_law 55 = .ok (.putfield 169, 3) := by decide +kernel
theorem dX10_law_58 : decode cX10_law 58 = .ok (.iconst 0, 1) := by decide +kernel
theorem dX10_law_59 : decode cX10_law 59 = .ok (.istore 4, 2) := by decide +kernel
theorem dX10_law_61 : decode cX10_law 61 = .ok (.iload 4, 2) := by decide +kernel
theorem dX10_law_63 : decode cX10_law 63 = .ok (.aload_n 0, 1) := by decide +kernel
theorem dX10_law_64 : decode cX10_law 64 = .ok (.getfield 144, 3) := by decide +kernel
theorem dX10_law_67 : decode cX10_law 67 = .ok (.if_icmp .ge 23, 3) := by decide +kernel
theorem dX10_law_70 : decode cX10_law 70 = .ok (.aload_n 0, 1) := by decide +kernel
theorem dX10_law_71 : decode cX10_law 71 = .ok (.getfield 172, 3) := by decide +kernel
theorem dX10_law_74 : decode cX10_law 74 = .ok (.iload 4, 2) := by decide +kernel
theorem dX10_law_76 : decode cX10_law 76 = .ok (.aload_n 0, 1) := by decide +kernel
theorem dX10_law_77 : decode cX10_law 77 = .ok (.getfield 141, 3) := by decide +kernel
theorem dX10_law_80 : decode cX10_law 80 = .ok (.iload 4, 2) := by decide +kernel
theorem dX10_law_82 : decode cX10_law 82 = .ok (.iaload, 1) := by decide +kernel
theorem dX10_law_83 : decode cX10_law 83 = .ok (.iastore, 1) := by decide +kernel
theorem dX10_law_84 : decode cX10_law 84 = .ok (.iinc 4 1, 3) := by decide +kernel
theorem dX10_law_87 : decode cX10_law 87 = .ok (.goto (-26), 3) := by decide +kernel
theorem dX10_law_90 : decode cX10_law 90 = .ok (.iconst 0, 1) := by decide +kernel
theorem dX10_law_91 : decode cX10_law 91 = .ok (.ireturn, 1) := by decide +kernel
theorem dX10_countsRides_0 : decode cX10_countsRides 0 = .ok (.iconst 0, 1) := by decide +kernel
theorem dX10_countsRides_1 : decode cX10_countsRides 1 = .ok (.istore_n 1, 1) := by decide +kernel
theorem dX10_countsRides_2 : decode cX10_countsRides 2 = .ok (.iconst 0, 1) := by decide +kernel
theorem dX10_countsRides_3 : decode cX10_countsRides 3 = .ok (.istore_n 2, 1) := by decide +kernel
theorem dX10_countsRides_4 : decode cX10_countsRides 4 = .ok (.iload_n 2, 1) := by decide +kernel
theorem dX10_countsRides_5 : decode cX10_countsRides 5 = .ok (.aload_n 0, 1) := by decide +kernel
theorem dX10_countsRides_6 : decode cX10_countsRides 6 = .ok (.getfield 169, 3) := by decide +kernel
theorem dX10_countsRides_9 : decode cX10_countsRides 9 = .ok (.if_icmp .ge 31, 3) := by decide +kernel
theorem dX10_countsRides_12 : decode cX10_countsRides 12 = .ok (.iload_n 1, 1) := by decide +kernel
theorem dX10_countsRides_13 : decode cX10_countsRides 13 = .ok (.ifCond .ne 15, 3) := by decide +kernel
theorem dX10_countsRides_16 : decode cX10_countsRides 16 = .ok (.aload_n 0, 1) := by decide +kernel
theorem dX10_countsRides_17 : decode cX10_countsRides 17 = .ok (.getfield 172, 3) := by decide +kernel
theorem dX10_countsRides_20 : decode cX10_countsRides 20 = .ok (.iload_n 2, 1) := by decide +kernel
theorem dX10_countsRides_21 : decode cX10_countsRides 21 = .ok (.iaload, 1) := by decide +kernel
theorem dX10_countsRides_22 : decode cX10_countsRides 22 = .ok (.sipush 1005, 3) := by decide +kernel
theorem dX10_countsRides_25 : decode cX10_countsRides 25 = .ok (.if_icmp .ne 7, 3) := by decide +kernel
theorem dX10_countsRides_28 : decode cX10_countsRides 28 = .ok (.iconst 1, 1) := by decide +kernel
theorem dX10_countsRides_29 : decode cX10_countsRides 29 = .ok (.goto 4, 3) := by decide +kernel
theorem dX10_countsRides_32 : decode cX10_countsRides 32 = .ok (.iconst 0, 1) := by decide +kernel
theorem dX10_countsRides_33 : decode cX10_countsRides 33 = .ok (.istore_n 1, 1) := by decide +kernel
theorem dX10_countsRides_34 : decode cX10_countsRides 34 = .ok (.iinc 2 1, 3) := by decide +kernel
theorem dX10_countsRides_37 : decode cX10_countsRides 37 = .ok (.goto (-33), 3) := by decide +kernel
theorem dX10_countsRides_40 : decode cX10_countsRides 40 = .ok (.iload_n 1, 1) := by decide +kernel
theorem dX10_countsRides_41 : decode cX10_countsRides 41 = .ok (.ireturn, 1) := by decide +kernel
theorem dX10_looks_0 : decode cX10_looks 0 = .ok (.aload_n 0, 1) := by decide +kernel
theorem dX10_looks_1 : decode cX10_looks 1 = .ok (.iload_n 2, 1) := by decide +kernel
theorem dX10_looks_2 : decode cX10_looks 2 = .ok (.invokestatic 175, 3) := by decide +kernel
theorem dX10_looks_5 : decode cX10_looks 5 = .ok (.putfield 180, 3) := by decide +kernel
theorem dX10_looks_8 : decode cX10_looks 8 = .ok (.aload_n 0, 1) := by decide +kernel
theorem dX10_looks_9 : decode cX10_looks 9 = .ok (.aload_n 1, 1) := by decide +kernel
theorem dX10_looks_10 : decode cX10_looks 10 = .ok (.bipush 31, 2) := by decide +kernel
theorem dX10_looks_12 : decode cX10_looks 12 = .ok (.iaload, 1) := by decide +kernel
theorem dX10_looks_13 : decode cX10_looks 13 = .ok (.putfield 183, 3) := by decide +kernel
theorem dX10_looks_16 : decode cX10_looks 16 = .ok (.aload_n 0, 1) := by decide +kernel
theorem dX10_looks_17 : decode cX10_looks 17 = .ok (.aload_n 1, 1) := by decide +kernel
theorem dX10_looks_18 : decode cX10_looks 18 = .ok (.bipush 32, 2) := by decide +kernel
theorem dX10_looks_20 : decode cX10_looks 20 = .ok (.iaload, 1) := by decide +kernel
theorem dX10_looks_21 : decode cX10_looks 21 = .ok (.putfield 186, 3) := by decide +kernel
theorem dX10_looks_24 : decode cX10_looks 24 = .ok (.iconst 0, 1) := by decide +kernel
theorem dX10_looks_25 : decode cX10_looks 25 = .ok (.istore_n 3, 1) := by decide +kernel
theorem dX10_looks_26 : decode cX10_looks 26 = .ok (.iload_n 3, 1) := by decide +kernel
theorem dX10_looks_27 : decode cX10_looks 27 = .ok (.bipush 9, 2) := by decide +kernel
theorem dX10_looks_29 : decode cX10_looks 29 = .ok (.if_icmp .ge 23, 3) := by decide +kernel
theorem dX10_looks_32 : decode cX10_looks 32 = .ok (.aload_n 0, 1) := by decide +kernel
theorem dX10_looks_33 : decode cX10_looks 33 = .ok (.getfield 189, 3) := by decide +kernel
theorem dX10_looks_36 : decode cX10_looks 36 = .ok (.iload_n 3, 1) := by decide +kernel
theorem dX10_looks_37 : decode cX10_looks 37 = .ok (.iconst 0, 1) := by decide +kernel
theorem dX10_looks_38 : decode cX10_looks 38 = .ok (.iastore, 1) := by decide +kernel
theorem dX10_looks_39 : decode cX10_looks 39 = .ok (.aload_n 0, 1) := by decide +kernel
theorem dX10_looks_40 : decode cX10_looks 40 = .ok (.getfield 192, 3) := by decide +kernel
theorem dX10_looks_43 : decode cX10_looks 43 = .ok (.iload_n 3, 1) := by decide +kernel
theorem dX10_looks_44 : decode cX10_looks 44 = .ok (.iconst 0, 1) := by decide +kernel
theorem dX10_looks_45 : decode cX10_looks 45 = .ok (.iastore, 1) := by decide +kernel
theorem dX10_looks_46 : decode cX10_looks 46 = .ok (.iinc 3 1, 3) := by decide +kernel
theorem dX10_looks_49 : decode cX10_looks 49 = .ok (.goto (-23), 3) := by decide +kernel
theorem dX10_looks_52 : decode cX10_looks 52 = .ok (.iconst 0, 1) := by decide +kernel
theorem dX10_looks_53 : decode cX10_looks 53 = .ok (.istore_n 3, 1) := by decide +kernel
theorem dX10_looks_54 : decode cX10_looks 54 = .ok (.iload_n 3, 1) := by decide +kernel
theorem dX10_looks_55 : decode cX10_looks 55 = .ok (.aload_n 0, 1) := by decide +kernel
theorem dX10_looks_56 : decode cX10_looks 56 = .ok (.getfield 29, 3) := by decide +kernel
theorem dX10_looks_59 : decode cX10_looks 59 = .ok (.if_icmp .ge 64, 3) := by decide +kernel
theorem dX10_looks_62 : decode cX10_looks 62 = .ok (.iload_n 2, 1) := by decide +kernel
theorem dX10_looks_63 : decode cX10_looks 63 = .ok (.iload_n 3, 1) := by decide +kernel
theorem dX10_looks_64 : decode cX10_looks 64 = .ok (.invokestatic 195, 3) := by decide +kernel
theorem dX10_looks_67 : decode cX10_looks 67 = .ok (.ifCond .eq 30, 3) := by decide +kernel
theorem dX10_looks_70 : decode cX10_looks 70 = .ok (.aload_n 1, 1) := by decide +kernel
theorem dX10_looks_71 : decode cX10_looks 71 = .ok (.bipush 10, 2) := by decide +kernel
theorem dX10_looks_73 : decode cX10_looks 73 = .ok (.iload_n 3, 1) := by decide +kernel
theorem dX10_looks_74 : decode cX10_looks 74 = .ok (.iadd, 1) := by decide +kernel
theorem dX10_looks_75 : decode cX10_looks 75 = .ok (.iaload, 1) := by decide +kernel
theorem dX10_looks_76 : decode cX10_looks 76 = .ok (.ifCond .lt 41, 3) := by decide +kernel
theorem dX10_looks_79 : decode cX10_looks 79 = .ok (.aload_n 0, 1) := by decide +kernel
theorem dX10_looks_80 : decode cX10_looks 80 = .ok (.getfield 189, 3) := by decide +kernel
theorem dX10_looks_83 : decode cX10_looks 83 = .ok (.aload_n 1, 1) := by decide +kernel
theorem dX10_looks_84 : decode cX10_looks 84 = .ok (.bipush 10, 2) := by decide +kernel
theorem dX10_looks_86 : decode cX10_looks 86 = .ok (.iload_n 3, 1) := by decide +kernel
theorem dX10_looks_87 : decode cX10_looks 87 = .ok (.iadd, 1) := by decide +kernel
theorem dX10_looks_88 : decode cX10_looks 88 = .ok (.iaload, 1) := by decide +kernel
theorem dX10_looks_89 : decode cX10_looks 89 = .ok (.dup2, 1) := by decide +kernel
theorem dX10_looks_90 : decode cX10_looks 90 = .ok (.iaload, 1) := by decide +kernel
theorem dX10_looks_91 : decode cX10_looks 91 = .ok (.iconst 1, 1) := by decide +kernel
theorem dX10_looks_92 : decode cX10_looks 92 = .ok (.iadd, 1) := by decide +kernel
theorem dX10_looks_93 : decode cX10_looks 93 = .ok (.iastore, 1) := by decide +kernel
theorem dX10_looks_94 : decode cX10_looks 94 = .ok (.goto 23, 3) := by decide +kernel
theorem dX10_looks_97 : decode cX10_looks 97 = .ok (.aload_n 1, 1) := by decide +kernel
theorem dX10_looks_98 : decode cX10_looks 98 = .ok (.iload_n 3, 1) := by decide +kernel
theorem dX10_looks_99 : decode cX10_looks 99 = .ok (.iaload, 1) := by decide +kernel
theorem dX10_looks_100 : decode cX10_looks 100 = .ok (.bipush 9, 2) := by decide +kernel
theorem dX10_looks_102 : decode cX10_looks 102 = .ok (.if_icmp .eq 15, 3) := by decide +kernel
theorem dX10_looks_105 : decode cX10_looks 105 = .ok (.aload_n 0, 1) := by decide +kernel
theorem dX10_looks_106 : decode cX10_looks 106 = .ok (.getfield 192, 3) := by decide +kernel
theorem dX10_looks_109 : decode cX10_looks 109 = .ok (.aload_n 1, 1) := by decide +kernel
theorem dX10_looks_110 : decode cX10_looks 110 = .ok (.iload_n 3, 1) := by decide +kernel
theorem dX10_looks_111 : decode cX10_looks 111 = .ok (.iaload, 1) := by decide +kernel
theorem dX10_looks_112 : decode cX10_looks 112 = .ok (.dup2, 1) := by decide +kernel
theorem dX10_looks_113 : decode cX10_looks 113 = .ok (.iaload, 1) := by decide +kernel
theorem dX10_looks_114 : decode cX10_looks 114 = .ok (.iconst 1, 1) := by decide +kernel
theorem dX10_looks_115 : decode cX10_looks 115 = .ok (.iadd, 1) := by decide +kernel
theorem dX10_looks_116 : decode cX10_looks 116 = .ok (.iastore, 1) := by decide +kernel
theorem dX10_looks_117 : decode cX10_looks 117 = .ok (.iinc 3 1, 3) := by decide +kernel
theorem dX10_looks_120 : decode cX10_looks 120 = .ok (.goto (-66), 3) := by decide +kernel
theorem dX10_looks_123 : decode cX10_looks 123 = .ok (.return_, 1) := by decide +kernel
theorem dX10_thingOf_0 : decode cX10_thingOf 0 = .ok (.iload_n 2, 1) := by decide +kernel
theorem dX10_thingOf_1 : decode cX10_thingOf 1 = .ok (.tableswitch 75 0 5 #[39, 41, 48, 58, 65, 70], 39) := by decide +kernel
theorem dX10_thingOf_40 : decode cX10_thingOf 40 = .ok (.iload_n 1, 1) := by decide +kernel
theorem dX10_thingOf_41 : decode cX10_thingOf 41 = .ok (.ireturn, 1) := by decide +kernel
theorem dX10_thingOf_42 : decode cX10_thingOf 42 = .ok (.aload_n 0, 1) := by decide +kernel
theorem dX10_thingOf_43 : decode cX10_thingOf 43 = .ok (.getfield 189, 3) := by decide +kernel
theorem dX10_thingOf_46 : decode cX10_thingOf 46 = .ok (.iload_n 1, 1) := by decide +kernel
theorem dX10_thingOf_47 : decode cX10_thingOf 47 = .ok (.iaload, 1) := by decide +kernel
theorem dX10_thingOf_48 : decode cX10_thingOf 48 = .ok (.ireturn, 1) := by decide +kernel
theorem dX10_thingOf_49 : decode cX10_thingOf 49 = .ok (.iload_n 1, 1) := by decide +kernel
theorem dX10_thingOf_50 : decode cX10_thingOf 50 = .ok (.aload_n 0, 1) := by decide +kernel
theorem dX10_thingOf_51 : decode cX10_thingOf 51 = .ok (.getfield 183, 3) := by decide +kernel
theorem dX10_thingOf_54 : decode cX10_thingOf 54 = .ok (.isub, 1) := by decide +kernel
theorem dX10_thingOf_55 : decode cX10_thingOf 55 = .ok (.invokestatic 199, 3) := by decide +kernel
theorem dX10_thingOf_58 : decode cX10_thingOf 58 = .ok (.ireturn, 1) := by decide +kernel
theorem dX10_thingOf_59 : decode cX10_thingOf 59 = .ok (.aload_n 0, 1) := by decide +kernel
theorem dX10_thingOf_60 : decode cX10_thingOf 60 = .ok (.getfield 192, 3) := by decide +kernel
theorem dX10_thingOf_63 : decode cX10_thingOf 63 = .ok (.iload_n 1, 1) := by decide +kernel
theorem dX10_thingOf_64 : decode cX10_thingOf 64 = .ok (.iaload, 1) := by decide +kernel
theorem dX10_thingOf_65 : decode cX10_thingOf 65 = .ok (.ireturn, 1) := by decide +kernel
theorem dX10_thingOf_66 : decode cX10_thingOf 66 = .ok (.aload_n 0, 1) := by decide +kernel
theorem dX10_thingOf_67 : decode cX10_thingOf 67 = .ok (.getfield 180, 3) := by decide +kernel
theorem dX10_thingOf_70 : decode cX10_thingOf 70 = .ok (.ireturn, 1) := by decide +kernel
theorem dX10_thingOf_71 : decode cX10_thingOf 71 = .ok (.aload_n 0, 1) := by decide +kernel
theorem dX10_thingOf_72 : decode cX10_thingOf 72 = .ok (.getfield 186, 3) := by decide +kernel
theorem dX10_thingOf_75 : decode cX10_thingOf 75 = .ok (.ireturn, 1) := by decide +kernel
theorem dX10_thingOf_76 : decode cX10_thingOf 76 = .ok (.aload_n 0, 1) := by decide +kernel
theorem dX10_thingOf_77 : decode cX10_thingOf 77 = .ok (.getfield 183, 3) := by decide +kernel
theorem dX10_thingOf_80 : decode cX10_thingOf 80 = .ok (.ireturn, 1) := by decide +kernel
theorem dX10_worked_0 : decode cX10_worked 0 = .ok (.iload_n 0, 1) := by decide +kernel
theorem dX10_worked_1 : decode cX10_worked 1 = .ok (.tableswitch 93 0 5 #[39, 53, 67, 81, 85, 89], 39) := by decide +kernel
theorem dX10_worked_40 : decode cX10_worked 40 = .ok (.iload_n 1, 1) := by decide +kernel
theorem dX10_worked_41 : decode cX10_worked 41 = .ok (.iload_n 2, 1) := by decide +kernel
theorem dX10_worked_42 : decode cX10_worked 42 = .ok (.if_icmp .ge 7, 3) := by decide +kernel
theorem dX10_worked_45 : decode cX10_worked 45 = .ok (.iconst 1, 1) := by decide +kernel
theorem dX10_worked_46 : decode cX10_worked 46 = .ok (.goto 4, 3) := by decide +kernel
theorem dX10_worked_49 : decode cX10_worked 49 = .ok (.iconst 0, 1) := by decide +kernel
theorem dX10_worked_50 : decode cX10_worked 50 = .ok (.invokestatic 54, 3) := by decide +kernel
theorem dX10_worked_53 : decode cX10_worked 53 = .ok (.ireturn, 1) := by decide +kernel
theorem dX10_worked_54 : decode cX10_worked 54 = .ok (.iload_n 1, 1) := by decide +kernel
theorem dX10_worked_55 : decode cX10_worked 55 = .ok (.iload_n 2, 1) := by decide +kernel
theorem dX10_worked_56 : decode cX10_worked 56 = .ok (.if_icmp .le 7, 3) := by decide +kernel
theorem dX10_worked_59 : decode cX10_worked 59 = .ok (.iconst 1, 1) := by decide +kernel
theorem dX10_worked_60 : decode cX10_worked 60 = .ok (.goto 4, 3) := by decide +kernel
theorem dX10_worked_63 : decode cX10_worked 63 = .ok (.iconst 0, 1) := by decide +kernel
theorem dX10_worked_64 : decode cX10_worked 64 = .ok (.invokestatic 54, 3) := by decide +kernel
theorem dX10_worked_67 : decode cX10_worked 67 = .ok (.ireturn, 1) := by decide +kernel
theorem dX10_worked_68 : decode cX10_worked 68 = .ok (.iload_n 1, 1) := by decide +kernel
theorem dX10_worked_69 : decode cX10_worked 69 = .ok (.iload_n 2, 1) := by decide +kernel
theorem dX10_worked_70 : decode cX10_worked 70 = .ok (.if_icmp .ne 7, 3) := by decide +kernel
theorem dX10_worked_73 : decode cX10_worked 73 = .ok (.iconst 1, 1) := by decide +kernel
theorem dX10_worked_74 : decode cX10_worked 74 = .ok (.goto 4, 3) := by decide +kernel
theorem dX10_worked_77 : decode cX10_worked 77 = .ok (.iconst 0, 1) := by decide +kernel
theorem dX10_worked_78 : decode cX10_worked 78 = .ok (.invokestatic 54, 3) := by decide +kernel
theorem dX10_worked_81 : decode cX10_worked 81 = .ok (.ireturn, 1) := by decide +kernel
theorem dX10_worked_82 : decode cX10_worked 82 = .ok (.iload_n 1, 1) := by decide +kernel
theorem dX10_worked_83 : decode cX10_worked 83 = .ok (.iload_n 2, 1) := by decide +kernel
theorem dX10_worked_84 : decode cX10_worked 84 = .ok (.iadd, 1) := by decide +kernel
theorem dX10_worked_85 : decode cX10_worked 85 = .ok (.ireturn, 1) := by decide +kernel
theorem dX10_worked_86 : decode cX10_worked 86 = .ok (.iload_n 1, 1) := by decide +kernel
theorem dX10_worked_87 : decode cX10_worked 87 = .ok (.iload_n 2, 1) := by decide +kernel
theorem dX10_worked_88 : decode cX10_worked 88 = .ok (.isub, 1) := by decide +kernel
theorem dX10_worked_89 : decode cX10_worked 89 = .ok (.ireturn, 1) := by decide +kernel
theorem dX10_worked_90 : decode cX10_worked 90 = .ok (.iload_n 1, 1) := by decide +kernel
theorem dX10_worked_91 : decode cX10_worked 91 = .ok (.iload_n 2, 1) := by decide +kernel
theorem dX10_worked_92 : decode cX10_worked 92 = .ok (.imul, 1) := by decide +kernel
theorem dX10_worked_93 : decode cX10_worked 93 = .ok (.ireturn, 1) := by decide +kernel
theorem dX10_worked_94 : decode cX10_worked 94 = .ok (.iload_n 2, 1) := by decide +kernel
theorem dX10_worked_95 : decode cX10_worked 95 = .ok (.ifCond .ne 7, 3) := by decide +kernel
theorem dX10_worked_98 : decode cX10_worked 98 = .ok (.iconst 0, 1) := by decide +kernel
theorem dX10_worked_99 : decode cX10_worked 99 = .ok (.goto 6, 3) := by decide +kernel
theorem dX10_worked_102 : decode cX10_worked 102 = .ok (.iload_n 1, 1) := by decide +kernel
theorem dX10_worked_103 : decode cX10_worked 103 = .ok (.iload_n 2, 1) := by decide +kernel
theorem dX10_worked_104 : decode cX10_worked 104 = .ok (.idiv, 1) := by decide +kernel
theorem dX10_worked_105 : decode cX10_worked 105 = .ok (.ireturn, 1) := by decide +kernel
theorem dX10_lawFor_0 : decode cX10_lawFor 0 = .ok (.aload_n 0, 1) := by decide +kernel
theorem dX10_lawFor_1 : decode cX10_lawFor 1 = .ok (.getfield 169, 3) := by decide +kernel
theorem dX10_lawFor_4 : decode cX10_lawFor 4 = .ok (.ifCond .ne 10, 3) := by decide +kernel
theorem dX10_lawFor_7 : decode cX10_lawFor 7 = .ok (.aload_n 0, 1) := by decide +kernel
theorem dX10_lawFor_8 : decode cX10_lawFor 8 = .ok (.getfield 189, 3) := by decide +kernel
theorem dX10_lawFor_11 : decode cX10_lawFor 11 = .ok (.iload_n 1, 1) := by decide +kernel
theorem dX10_lawFor_12 : decode cX10_lawFor 12 = .ok (.iaload, 1) := by decide +kernel
theorem dX10_lawFor_13 : decode cX10_lawFor 13 = .ok (.ireturn, 1) := by decide +kernel
theorem dX10_lawFor_14 : decode cX10_lawFor 14 = .ok (.iconst 0, 1) := by decide +kernel
theorem dX10_lawFor_15 : decode cX10_lawFor 15 = .ok (.istore_n 2, 1) := by decide +kernel
theorem dX10_lawFor_16 : decode cX10_lawFor 16 = .ok (.iconst 0, 1) := by decide +kernel
theorem dX10_lawFor_17 : decode cX10_lawFor 17 = .ok (.istore_n 3, 1) := by decide +kernel
theorem dX10_lawFor_18 : decode cX10_lawFor 18 = .ok (.iload_n 3, 1) := by decide +kernel
theorem dX10_lawFor_19 : decode cX10_lawFor 19 = .ok (.aload_n 0, 1) := by decide +kernel
theorem dX10_lawFor_20 : decode cX10_lawFor 20 = .ok (.getfield 169, 3) := by decide +kernel
theorem dX10_lawFor_23 : decode cX10_lawFor 23 = .ok (.if_icmp .ge 123, 3) := by decide +kernel
theorem dX10_lawFor_26 : decode cX10_lawFor 26 = .ok (.aload_n 0, 1) := by decide +kernel
theorem dX10_lawFor_27 : decode cX10_lawFor 27 = .ok (.getfield 172, 3) := by decide +kernel
theorem dX10_lawFor_30 : decode cX10_lawFor 30 = .ok (.iload_n 3, 1) := by decide +kernel
theorem dX10_lawFor_31 : decode cX10_lawFor 31 = .ok (.iaload, 1) := by decide +kernel
theorem dX10_lawFor_32 : decode cX10_lawFor 32 = .ok (.istore 4, 2) := by decide +kernel
theorem dX10_lawFor_34 : decode cX10_lawFor 34 = .ok (.iload 4, 2) := by decide +kernel
theorem dX10_lawFor_36 : decode cX10_lawFor 36 = .ok (.sipush 3000, 3) := by decide +kernel
theorem dX10_lawFor_39 : decode cX10_lawFor 39 = .ok (.if_icmp .ne 23, 3) := by decide +kernel
theorem dX10_lawFor_42 : decode cX10_lawFor 42 = .ok (.aload_n 0, 1) := by decide +kernel
theorem dX10_lawFor_43 : decode cX10_lawFor 43 = .ok (.getfield 202, 3) := by decide +kernel
theorem dX10_lawFor_46 : decode cX10_lawFor 46 = .ok (.iload_n 2, 1) := by decide +kernel
theorem dX10_lawFor_47 : decode cX10_lawFor 47 = .ok (.iconst 1, 1) := by decide +kernel
theorem dX10_lawFor_48 : decode cX10_lawFor 48 = .ok (.isub, 1) := by decide +kernel
theorem dX10_lawFor_49 : decode cX10_lawFor 49 = .ok (.aload_n 0, 1) := by decide +kernel
theorem dX10_lawFor_50 : decode cX10_lawFor 50 = .ok (.getfield 202, 3) := by decide +kernel
theorem dX10_lawFor_53 : decode cX10_lawFor 53 = .ok (.iload_n 2, 1) := by decide +kernel
theorem dX10_lawFor_54 : decode cX10_lawFor 54 = .ok (.iconst 1, 1) := by decide +kernel
theorem dX10_lawFor_55 : decode cX10_lawFor 55 = .ok (.isub, 1) := by decide +kernel
theorem dX10_lawFor_56 : decode cX10_lawFor 56 = .ok (.iaload, 1) := by decide +kernel
theorem dX10_lawFor_57 : decode cX10_lawFor 57 = .ok (.ineg, 1) := by decide +kernel
theorem dX10_lawFor_58 : decode cX10_lawFor 58 = .ok (.iastore, 1) := by decide +kernel
theorem dX10_lawFor_59 : decode cX10_lawFor 59 = .ok (.goto 81, 3) := by decide +kernel
theorem dX10_lawFor_62 : decode cX10_lawFor 62 = .ok (.iload 4, 2) := by decide +kernel
theorem dX10_lawFor_64 : decode cX10_lawFor 64 = .ok (.sipush 2000, 3) := by decide +kernel
theorem dX10_lawFor_67 : decode cX10_lawFor 67 = .ok (.if_icmp .lt 40, 3) := by decide +kernel
theorem dX10_lawFor_70 : decode cX10_lawFor 70 = .ok (.iinc 2 (-1), 3) := by decide +kernel
theorem dX10_lawFor_73 : decode cX10_lawFor 73 = .ok (.aload_n 0, 1) := by decide +kernel
theorem dX10_lawFor_74 : decode cX10_lawFor 74 = .ok (.getfield 202, 3) := by decide +kernel
theorem dX10_lawFor_77 : decode cX10_lawFor 77 = .ok (.iload_n 2, 1) := by decide +kernel
theorem dX10_lawFor_78 : decode cX10_lawFor 78 = .ok (.iconst 1, 1) := by decide +kernel
theorem dX10_lawFor_79 : decode cX10_lawFor 79 = .ok (.isub, 1) := by decide +kernel
theorem dX10_lawFor_80 : decode cX10_lawFor 80 = .ok (.iload 4, 2) := by decide +kernel
theorem dX10_lawFor_82 : decode cX10_lawFor 82 = .ok (.sipush 2000, 3) := by decide +kernel
theorem dX10_lawFor_85 : decode cX10_lawFor 85 = .ok (.isub, 1) := by decide +kernel
theorem dX10_lawFor_86 : decode cX10_lawFor 86 = .ok (.aload_n 0, 1) := by decide +kernel
theorem dX10_lawFor_87 : decode cX10_lawFor 87 = .ok (.getfield 202, 3) := by decide +kernel
theorem dX10_lawFor_90 : decode cX10_lawFor 90 = .ok (.iload_n 2, 1) := by decide +kernel
theorem dX10_lawFor_91 : decode cX10_lawFor 91 = .ok (.iconst 1, 1) := by decide +kernel
theorem dX10_lawFor_92 : decode cX10_lawFor 92 = .ok (.isub, 1) := by decide +kernel
theorem dX10_lawFor_93 : decode cX10_lawFor 93 = .ok (.iaload, 1) := by decide +kernel
theorem dX10_lawFor_94 : decode cX10_lawFor 94 = .ok (.aload_n 0, 1) := by decide +kernel
theorem dX10_lawFor_95 : decode cX10_lawFor 95 = .ok (.getfield 202, 3) := by decide +kernel
theorem dX10_lawFor_98 : decode cX10_lawFor 98 = .ok (.iload_n 2, 1) := by decide +kernel
theorem dX10_lawFor_99 : decode cX10_lawFor 99 = .ok (.iaload, 1) := by decide +kernel
theorem dX10_lawFor_100 : decode cX10_lawFor 100 = .ok (.invokestatic 205, 3) := by decide +kernel
theorem dX10_lawFor_103 : decode cX10_lawFor 103 = .ok (.iastore, 1) := by decide +kernel
theorem dX10_lawFor_104 : decode cX10_lawFor 104 = .ok (.goto 36, 3) := by decide +kernel
theorem dX10_lawFor_107 : decode cX10_lawFor 107 = .ok (.aload_n 0, 1) := by decide +kernel
theorem dX10_lawFor_108 : decode cX10_lawFor 108 = .ok (.getfield 202, 3) := by decide +kernel
theorem dX10_lawFor_111 : decode cX10_lawFor 111 = .ok (.iload_n 2, 1) := by decide +kernel
theorem dX10_lawFor_112 : decode cX10_lawFor 112 = .ok (.iload 4, 2) := by decide +kernel
theorem dX10_lawFor_114 : decode cX10_lawFor 114 = .ok (.sipush 1000, 3) := by decide +kernel
theorem dX10_lawFor_117 : decode cX10_lawFor 117 = .ok (.if_icmp .lt 17, 3) := by decide +kernel
theorem dX10_lawFor_120 : decode cX10_lawFor 120 = .ok (.aload_n 0, 1) := by decide +kernel
theorem dX10_lawFor_121 : decode cX10_lawFor 121 = .ok (.iload_n 1, 1) := by decide +kernel
theorem dX10_lawFor_122 : decode cX10_lawFor 122 = .ok (.iload 4, 2) := by decide +kernel
theorem dX10_lawFor_124 : decode cX10_lawFor 124 = .ok (.sipush 1000, 3) := by decide +kernel
theorem dX10_lawFor_127 : decode cX10_lawFor 127 = .ok (.isub, 1) := by decide +kernel
theorem dX10_lawFor_128 : decode cX10_lawFor 128 = .ok (.invokevirtual 209, 3) := by decide +kernel
theorem dX10_lawFor_131 : decode cX10_lawFor 131 = .ok (.goto 5, 3) := by decide +kernel
theorem dX10_lawFor_134 : decode cX10_lawFor 134 = .ok (.iload 4, 2) := by decide +kernel
theorem dX10_lawFor_136 : decode cX10_lawFor 136 = .ok (.iastore, 1) := by decide +kernel
theorem dX10_lawFor_137 : decode cX10_lawFor 137 = .ok (.iinc 2 1, 3) := by decide +kernel
theorem dX10_lawFor_140 : decode cX10_lawFor 140 = .ok (.iinc 3 1, 3) := by decide +kernel
theorem dX10_lawFor_143 : decode cX10_lawFor 143 = .ok (.goto (-125), 3) := by decide +kernel
theorem dX10_lawFor_146 : decode cX10_lawFor 146 = .ok (.aload_n 0, 1) := by decide +kernel
theorem dX10_lawFor_147 : decode cX10_lawFor 147 = .ok (.getfield 202, 3) := by decide +kernel
theorem dX10_lawFor_150 : decode cX10_lawFor 150 = .ok (.iconst 0, 1) := by decide +kernel
theorem dX10_lawFor_151 : decode cX10_lawFor 151 = .ok (.iaload, 1) := by decide +kernel
theorem dX10_lawFor_152 : decode cX10_lawFor 152 = .ok (.ireturn, 1) := by decide +kernel
theorem dX10_leastStop_0 : decode cX10_leastStop 0 = .ok (.iconst (-1), 1) := by decide +kernel
theorem dX10_leastStop_1 : decode cX10_leastStop 1 = .ok (.istore_n 1, 1) := by decide +kernel
theorem dX10_leastStop_2 : decode cX10_leastStop 2 = .ok (.iconst 0, 1) := by decide +kernel
theorem dX10_leastStop_3 : decode cX10_leastStop 3 = .ok (.istore_n 2, 1) := by decide +kernel
theorem dX10_leastStop_4 : decode cX10_leastStop 4 = .ok (.iconst 0, 1) := by decide +kernel
theorem dX10_leastStop_5 : decode cX10_leastStop 5 = .ok (.istore_n 3, 1) := by decide +kernel
theorem dX10_leastStop_6 : decode cX10_leastStop 6 = .ok (.iload_n 3, 1) := by decide +kernel
theorem dX10_leastStop_7 : decode cX10_leastStop 7 = .ok (.aload_n 0, 1) := by decide +kernel
theorem dX10_leastStop_8 : decode cX10_leastStop 8 = .ok (.getfield 22, 3) := by decide +kernel
theorem dX10_leastStop_11 : decode cX10_leastStop 11 = .ok (.if_icmp .ge 85, 3) := by decide +kernel
theorem dX10_leastStop_14 : decode cX10_leastStop 14 = .ok (.iload_n 3, 1) := by decide +kernel
theorem dX10_leastStop_15 : decode cX10_leastStop 15 = .ok (.aload_n 0, 1) := by decide +kernel
theorem dX10_leastStop_16 : decode cX10_leastStop 16 = .ok (.getfield 183, 3) := by decide +kernel
theorem dX10_leastStop_19 : decode cX10_leastStop 19 = .ok (.if_icmp .ne 6, 3) := by decide +kernel
theorem dX10_leastStop_22 : decode cX10_leastStop 22 = .ok (.goto 68, 3) := by decide +kernel
theorem dX10_leastStop_25 : decode cX10_leastStop 25 = .ok (.aload_n 0, 1) := by decide +kernel
theorem dX10_leastStop_26 : decode cX10_leastStop 26 = .ok (.iload_n 3, 1) := by decide +kernel
theorem dX10_leastStop_27 : decode cX10_leastStop 27 = .ok (.invokevirtual 212, 3) := by decide +kernel
theorem dX10_leastStop_30 : decode cX10_leastStop 30 = .ok (.istore 4, 2) := by decide +kernel
theorem dX10_leastStop_32 : decode cX10_leastStop 32 = .ok (.iload_n 1, 1) := by decide +kernel
theorem dX10_leastStop_33 : decode cX10_leastStop 33 = .ok (.ifCond .lt 34, 3) := by decide +kernel
theorem dX10_leastStop_36 : decode cX10_leastStop 36 = .ok (.iload 4, 2) := by decide +kernel
theorem dX10_leastStop_38 : decode cX10_leastStop 38 = .ok (.iload_n 2, 1) := by decide +kernel
theorem dX10_leastStop_39 : decode cX10_leastStop 39 = .ok (.if_icmp .ne 28, 3) := by decide +kernel
theorem dX10_leastStop_42 : decode cX10_leastStop 42 = .ok (.iload_n 3, 1) := by decide +kernel
theorem dX10_leastStop_43 : decode cX10_leastStop 43 = .ok (.aload_n 0, 1) := by decide +kernel
theorem dX10_leastStop_44 : decode cX10_leastStop 44 = .ok (.getfield 183, 3) := by decide +kernel
theorem dX10_leastStop_47 : decode cX10_leastStop 47 = .ok (.isub, 1) := by decide +kernel
theorem dX10_leastStop_48 : decode cX10_leastStop 48 = .ok (.invokestatic 199, 3) := by decide +kernel
theorem dX10_leastStop_51 : decode cX10_leastStop 51 = .ok (.iload_n 1, 1) := by decide +kernel
theorem dX10_leastStop_52 : decode cX10_leastStop 52 = .ok (.aload_n 0, 1) := by decide +kernel
theorem dX10_leastStop_53 : decode cX10_leastStop 53 = .ok (.getfield 183, 3) := by decide +kernel
theorem dX10_leastStop_56 : decode cX10_leastStop 56 = .ok (.isub, 1) := by decide +kernel
theorem dX10_leastStop_57 : decode cX10_leastStop 57 = .ok (.invokestatic 199, 3) := by decide +kernel
theorem dX10_leastStop_60 : decode cX10_leastStop 60 = .ok (.if_icmp .ge 7, 3) := by decide +kernel
theorem dX10_leastStop_63 : decode cX10_leastStop 63 = .ok (.iconst 1, 1) := by decide +kernel
theorem dX10_leastStop_64 : decode cX10_leastStop 64 = .ok (.goto 4, 3) := by decide +kernel
theorem dX10_leastStop_67 : decode cX10_leastStop 67 = .ok (.iconst 0, 1) := by decide +kernel
theorem dX10_leastStop_68 : decode cX10_leastStop 68 = .ok (.istore 5, 2) := by decide +kernel
theorem dX10_leastStop_70 : decode cX10_leastStop 70 = .ok (.iload_n 1, 1) := by decide +kernel
theorem dX10_leastStop_71 : decode cX10_leastStop 71 = .ok (.ifCond .lt 14, 3) := by decide +kernel
theorem dX10_leastStop_74 : decode cX10_leastStop 74 = .ok (.iload 4, 2) := by decide +kernel
theorem dX10_leastStop_76 : decode cX10_leastStop 76 = .ok (.iload_n 2, 1) := by decide +kernel
theorem dX10_leastStop_77 : decode cX10_leastStop 77 = .ok (.if_icmp .lt 8, 3) := by decide +kernel
theorem dX10_leastStop_80 : decode cX10_leastStop 80 = .ok (.iload 5, 2) := by decide +kernel
theorem dX10_leastStop_82 : decode cX10_leastStop 82 = .ok (.ifCond .eq 8, 3) := by decide +kernel
theorem dX10_leastStop_85 : decode cX10_leastStop 85 = .ok (.iload_n 3, 1) := by decide +kernel
theorem dX10_leastStop_86 : decode cX10_leastStop 86 = .ok (.istore_n 1, 1) := by decide +kernel
theorem dX10_leastStop_87 : decode cX10_leastStop 87 = .ok (.iload 4, 2) := by decide +kernel
theorem dX10_leastStop_89 : decode cX10_leastStop 89 = .ok (.istore_n 2, 1) := by decide +kernel
theorem dX10_leastStop_90 : decode cX10_leastStop 90 = .ok (.iinc 3 1, 3) := by decide +kernel
theorem dX10_leastStop_93 : decode cX10_leastStop 93 = .ok (.goto (-87), 3) := by decide +kernel
theorem dX10_leastStop_96 : decode cX10_leastStop 96 = .ok (.iload_n 1, 1) := by decide +kernel
theorem dX10_leastStop_97 : decode cX10_leastStop 97 = .ok (.ireturn, 1) := by decide +kernel
theorem dX10_stopOf_0 : decode cX10_stopOf 0 = .ok (.aload_n 0, 1) := by decide +kernel
theorem dX10_stopOf_1 : decode cX10_stopOf 1 = .ok (.aload_n 1, 1) := by decide +kernel
theorem dX10_stopOf_2 : decode cX10_stopOf 2 = .ok (.iload_n 2, 1) := by decide +kernel
theorem dX10_stopOf_3 : decode cX10_stopOf 3 = .ok (.invokevirtual 215, 3) := by decide +kernel
theorem dX10_stopOf_6 : decode cX10_stopOf 6 = .ok (.aload_n 1, 1) := by decide +kernel
theorem dX10_stopOf_7 : decode cX10_stopOf 7 = .ok (.bipush 32, 2) := by decide +kernel
theorem dX10_stopOf_9 : decode cX10_stopOf 9 = .ok (.iaload, 1) := by decide +kernel
theorem dX10_stopOf_10 : decode cX10_stopOf 10 = .ok (.iconst 1, 1) := by decide +kernel
theorem dX10_stopOf_11 : decode cX10_stopOf 11 = .ok (.iadd, 1) := by decide +kernel
theorem dX10_stopOf_12 : decode cX10_stopOf 12 = .ok (.bipush 7, 2) := by decide +kernel
theorem dX10_stopOf_14 : decode cX10_stopOf 14 = .ok (.irem, 1) := by decide +kernel
theorem dX10_stopOf_15 : decode cX10_stopOf 15 = .ok (.ifCond .ne 25, 3) := by decide +kernel
theorem dX10_stopOf_18 : decode cX10_stopOf 18 = .ok (.aload_n 0, 1) := by decide +kernel
theorem dX10_stopOf_19 : decode cX10_stopOf 19 = .ok (.getfield 76, 3) := by decide +kernel
theorem dX10_stopOf_22 : decode cX10_stopOf 22 = .ok (.ifCond .lt 18, 3) := by decide +kernel
theorem dX10_stopOf_25 : decode cX10_stopOf 25 = .ok (.aload_n 0, 1) := by decide +kernel
theorem dX10_stopOf_26 : decode cX10_stopOf 26 = .ok (.getfield 76, 3) := by decide +kernel
theorem dX10_stopOf_29 : decode cX10_stopOf 29 = .ok (.aload_n 1, 1) := by decide +kernel
theorem dX10_stopOf_30 : decode cX10_stopOf 30 = .ok (.bipush 31, 2) := by decide +kernel
theorem dX10_stopOf_32 : decode cX10_stopOf 32 = .ok (.iaload, 1) := by decide +kernel
theorem dX10_stopOf_33 : decode cX10_stopOf 33 = .ok (.if_icmp .eq 7, 3) := by decide +kernel
theorem dX10_stopOf_36 : decode cX10_stopOf 36 = .ok (.iconst 1, 1) := by decide +kernel
theorem dX10_stopOf_37 : decode cX10_stopOf 37 = .ok (.goto 4, 3) := by decide +kernel
theorem dX10_stopOf_40 : decode cX10_stopOf 40 = .ok (.iconst 0, 1) := by decide +kernel
theorem dX10_stopOf_41 : decode cX10_stopOf 41 = .ok (.istore_n 3, 1) := by decide +kernel
theorem dX10_stopOf_42 : decode cX10_stopOf 42 = .ok (.iload_n 3, 1) := by decide +kernel
theorem dX10_stopOf_43 : decode cX10_stopOf 43 = .ok (.ifCond .eq 10, 3) := by decide +kernel
theorem dX10_stopOf_46 : decode cX10_stopOf 46 = .ok (.aload_n 0, 1) := by decide +kernel
theorem dX10_stopOf_47 : decode cX10_stopOf 47 = .ok (.getfield 76, 3) := by decide +kernel
theorem dX10_stopOf_50 : decode cX10_stopOf 50 = .ok (.goto 7, 3) := by decide +kernel
theorem dX10_stopOf_53 : decode cX10_stopOf 53 = .ok (.aload_n 0, 1) := by decide +kernel
theorem dX10_stopOf_54 : decode cX10_stopOf 54 = .ok (.invokevirtual 219, 3) := by decide +kernel
theorem dX10_stopOf_57 : decode cX10_stopOf 57 = .ok (.ireturn, 1) := by decide +kernel
theorem dX10_travels_0 : decode cX10_travels 0 = .ok (.aload_n 0, 1) := by decide +kernel
theorem dX10_travels_1 : decode cX10_travels 1 = .ok (.aload_n 1, 1) := by decide +kernel
theorem dX10_travels_2 : decode cX10_travels 2 = .ok (.iload_n 2, 1) := by decide +kernel
theorem dX10_travels_3 : decode cX10_travels 3 = .ok (.invokevirtual 222, 3) := by decide +kernel
theorem dX10_travels_6 : decode cX10_travels 6 = .ok (.istore_n 3, 1) := by decide +kernel
theorem dX10_travels_7 : decode cX10_travels 7 = .ok (.iconst 0, 1) := by decide +kernel
theorem dX10_travels_8 : decode cX10_travels 8 = .ok (.istore 4, 2) := by decide +kernel
theorem dX10_travels_10 : decode cX10_travels 10 = .ok (.iconst 0, 1) := by decide +kernel
theorem dX10_travels_11 : decode cX10_travels 11 = .ok (.istore 5, 2) := by decide +kernel
theorem dX10_travels_13 : decode cX10_travels 13 = .ok (.iload 5, 2) := by decide +kernel
theorem dX10_travels_15 : decode cX10_travels 15 = .ok (.aload_n 0, 1) := by decide +kernel
theorem dX10_travels_16 : decode cX10_travels 16 = .ok (.getfield 29, 3) := by decide +kernel
theorem dX10_travels_19 : decode cX10_travels 19 = .ok (.if_icmp .ge 74, 3) := by decide +kernel
theorem dX10_travels_22 : decode cX10_travels 22 = .ok (.iload_n 2, 1) := by decide +kernel
theorem dX10_travels_23 : decode cX10_travels 23 = .ok (.iload 5, 2) := by decide +kernel
theorem dX10_travels_25 : decode cX10_travels 25 = .ok (.invokestatic 195, 3) := by decide +kernel
theorem dX10_travels_28 : decode cX10_travels 28 = .ok (.ifCond .eq 59, 3) := by decide +kernel
theorem dX10_travels_31 : decode cX10_travels 31 = .ok (.aload_n 1, 1) := by decide +kernel
theorem dX10_travels_32 : decode cX10_travels 32 = .ok (.bipush 20, 2) := by decide +kernel
theorem dX10_travels_34 : decode cX10_travels 34 = .ok (.iload 5, 2) := by decide +kernel
theorem dX10_travels_36 : decode cX10_travels 36 = .ok (.iadd, 1) := by decide +kernel
theorem dX10_travels_37 : decode cX10_travels 37 = .ok (.dup2, 1) := by decide +kernel
theorem dX10_travels_38 : decode cX10_travels 38 = .ok (.iaload, 1) := by decide +kernel
theorem dX10_travels_39 : decode cX10_travels 39 = .ok (.iconst 1, 1) := by decide +kernel
theorem dX10_travels_40 : decode cX10_travels 40 = .ok (.iadd, 1) := by decide +kernel
theorem dX10_travels_41 : decode cX10_travels 41 = .ok (.iastore, 1) := by decide +kernel
theorem dX10_travels_42 : decode cX10_travels 42 = .ok (.aload_n 1, 1) := by decide +kernel
theorem dX10_travels_43 : decode cX10_travels 43 = .ok (.iload 5, 2) := by decide +kernel
theorem dX10_travels_45 : decode cX10_travels 45 = .ok (.aload_n 0, 1) := by decide +kernel
theorem dX10_travels_46 : decode cX10_travels 46 = .ok (.getfield 135, 3) := by decide +kernel
theorem dX10_travels_49 : decode cX10_travels 49 = .ok (.iload 5, 2) := by decide +kernel
theorem dX10_travels_51 : decode cX10_travels 51 = .ok (.iaload, 1) := by decide +kernel
theorem dX10_travels_52 : decode cX10_travels 52 = .ok (.iload_n 3, 1) := by decide +kernel
theorem dX10_travels_53 : decode cX10_travels 53 = .ok (.if_icmp .ne 8, 3) := by decide +kernel
theorem dX10_travels_56 : decode cX10_travels 56 = .ok (.bipush 9, 2) := by decide +kernel
theorem dX10_travels_58 : decode cX10_travels 58 = .ok (.goto 4, 3) := by decide +kernel
theorem dX10_travels_61 : decode cX10_travels 61 = .ok (.iload_n 3, 1) := by decide +kernel
theorem dX10_travels_62 : decode cX10_travels 62 = .ok (.iastore, 1) := by decide +kernel
theorem dX10_travels_63 : decode cX10_travels 63 = .ok (.iload 4, 2) := by decide +kernel
theorem dX10_travels_65 : decode cX10_travels 65 = .ok (.aload_n 0, 1) := by decide +kernel
theorem dX10_travels_66 : decode cX10_travels 66 = .ok (.getfield 135, 3) := by decide +kernel
theorem dX10_travels_69 : decode cX10_travels 69 = .ok (.iload 5, 2) := by decide +kernel
theorem dX10_travels_71 : decode cX10_travels 71 = .ok (.iaload, 1) := by decide +kernel
theorem dX10_travels_72 : decode cX10_travels 72 = .ok (.iload_n 3, 1) := by decide +kernel
theorem dX10_travels_73 : decode cX10_travels 73 = .ok (.if_icmp .ne 10, 3) := by decide +kernel
theorem dX10_travels_76 : decode cX10_travels 76 = .ok (.iconst 1, 1) := by decide +kernel
theorem dX10_travels_77 : decode cX10_travels 77 = .ok (.iload 5, 2) := by decide +kernel
theorem dX10_travels_79 : decode cX10_travels 79 = .ok (.ishl, 1) := by decide +kernel
theorem dX10_travels_80 : decode cX10_travels 80 = .ok (.goto 4, 3) := by decide +kernel
theorem dX10_travels_83 : decode cX10_travels 83 = .ok (.iconst 0, 1) := by decide +kernel
theorem dX10_travels_84 : decode cX10_travels 84 = .ok (.ior, 1) := by decide +kernel
theorem dX10_travels_85 : decode cX10_travels 85 = .ok (.istore 4, 2) := by decide +kernel
theorem dX10_travels_87 : decode cX10_travels 87 = .ok (.iinc 5 1, 3) := by decide +kernel
theorem dX10_travels_90 : decode cX10_travels 90 = .ok (.goto (-77), 3) := by decide +kernel
theorem dX10_travels_93 : decode cX10_travels 93 = .ok (.aload_n 1, 1) := by decide +kernel
theorem dX10_travels_94 : decode cX10_travels 94 = .ok (.bipush 30, 2) := by decide +kernel
theorem dX10_travels_96 : decode cX10_travels 96 = .ok (.iload_n 2, 1) := by decide +kernel
theorem dX10_travels_97 : decode cX10_travels 97 = .ok (.iload 4, 2) := by decide +kernel
theorem dX10_travels_99 : decode cX10_travels 99 = .ok (.iconst (-1), 1) := by decide +kernel
theorem dX10_travels_100 : decode cX10_travels 100 = .ok (.ixor, 1) := by decide +kernel
theorem dX10_travels_101 : decode cX10_travels 101 = .ok (.iand, 1) := by decide +kernel
theorem dX10_travels_102 : decode cX10_travels 102 = .ok (.iastore, 1) := by decide +kernel
theorem dX10_travels_103 : decode cX10_travels 103 = .ok (.aload_n 1, 1) := by decide +kernel
theorem dX10_travels_104 : decode cX10_travels 104 = .ok (.bipush 31, 2) := by decide +kernel
theorem dX10_travels_106 : decode cX10_travels 106 = .ok (.iload_n 3, 1) := by decide +kernel
theorem dX10_travels_107 : decode cX10_travels 107 = .ok (.iastore, 1) := by decide +kernel
theorem dX10_travels_108 : decode cX10_travels 108 = .ok (.aload_n 1, 1) := by decide +kernel
theorem dX10_travels_109 : decode cX10_travels 109 = .ok (.bipush 32, 2) := by decide +kernel
theorem dX10_travels_111 : decode cX10_travels 111 = .ok (.dup2, 1) := by decide +kernel
theorem dX10_travels_112 : decode cX10_travels 112 = .ok (.iaload, 1) := by decide +kernel
theorem dX10_travels_113 : decode cX10_travels 113 = .ok (.iconst 1, 1) := by decide +kernel
theorem dX10_travels_114 : decode cX10_travels 114 = .ok (.iadd, 1) := by decide +kernel
theorem dX10_travels_115 : decode cX10_travels 115 = .ok (.iastore, 1) := by decide +kernel
theorem dX10_travels_116 : decode cX10_travels 116 = .ok (.iload 4, 2) := by decide +kernel
theorem dX10_travels_118 : decode cX10_travels 118 = .ok (.ireturn, 1) := by decide +kernel
theorem dX10_there_0 : decode cX10_there 0 = .ok (.iconst 0, 1) := by decide +kernel
theorem dX10_there_1 : decode cX10_there 1 = .ok (.istore_n 2, 1) := by decide +kernel
theorem dX10_there_2 : decode cX10_there 2 = .ok (.iconst 0, 1) := by decide +kernel
theorem dX10_there_3 : decode cX10_there 3 = .ok (.istore_n 3, 1) := by decide +kernel
theorem dX10_there_4 : decode cX10_there 4 = .ok (.iload_n 3, 1) := by decide +kernel
theorem dX10_there_5 : decode cX10_there 5 = .ok (.aload_n 0, 1) := by decide +kernel
theorem dX10_there_6 : decode cX10_there 6 = .ok (.getfield 29, 3) := by decide +kernel
theorem dX10_there_9 : decode cX10_there 9 = .ok (.if_icmp .ge 29, 3) := by decide +kernel
theorem dX10_there_12 : decode cX10_there 12 = .ok (.iload_n 2, 1) := by decide +kernel
theorem dX10_there_13 : decode cX10_there 13 = .ok (.aload_n 1, 1) := by decide +kernel
theorem dX10_there_14 : decode cX10_there 14 = .ok (.iload_n 3, 1) := by decide +kernel
theorem dX10_there_15 : decode cX10_there 15 = .ok (.iaload, 1) := by decide +kernel
theorem dX10_there_16 : decode cX10_there 16 = .ok (.aload_n 1, 1) := by decide +kernel
theorem dX10_there_17 : decode cX10_there 17 = .ok (.bipush 31, 2) := by decide +kernel
theorem dX10_there_19 : decode cX10_there 19 = .ok (.iaload, 1) := by decide +kernel
theorem dX10_there_20 : decode cX10_there 20 = .ok (.if_icmp .ne 9, 3) := by decide +kernel
theorem dX10_there_23 : decode cX10_there 23 = .ok (.iconst 1, 1) := by decide +kernel
theorem dX10_there_24 : decode cX10_there 24 = .ok (.iload_n 3, 1) := by decide +kernel
theorem dX10_there_25 : decode cX10_there 25 = .ok (.ishl, 1) := by decide +kernel
theorem dX10_there_26 : decode cX10_there 26 = .ok (.goto 4, 3) := by decide +kernel
theorem dX10_there_29 : decode cX10_there 29 = .ok (.iconst 0, 1) := by decide +kernel
theorem dX10_there_30 : decode cX10_there 30 = .ok (.ior, 1) := by decide +kernel
theorem dX10_there_31 : decode cX10_there 31 = .ok (.istore_n 2, 1) := by decide +kernel
theorem dX10_there_32 : decode cX10_there 32 = .ok (.iinc 3 1, 3) := by decide +kernel
theorem dX10_there_35 : decode cX10_there 35 = .ok (.goto (-31), 3) := by decide +kernel
theorem dX10_there_38 : decode cX10_there 38 = .ok (.iload_n 2, 1) := by decide +kernel
theorem dX10_there_39 : decode cX10_there 39 = .ok (.ireturn, 1) := by decide +kernel
theorem dX10_homeBits_0 : decode cX10_homeBits 0 = .ok (.iconst 0, 1) := by decide +kernel
theorem dX10_homeBits_1 : decode cX10_homeBits 1 = .ok (.istore_n 2, 1) := by decide +kernel
theorem dX10_homeBits_2 : decode cX10_homeBits 2 = .ok (.iconst 0, 1) := by decide +kernel
theorem dX10_homeBits_3 : decode cX10_homeBits 3 = .ok (.istore_n 3, 1) := by decide +kernel
theorem dX10_homeBits_4 : decode cX10_homeBits 4 = .ok (.iload_n 3, 1) := by decide +kernel
theorem dX10_homeBits_5 : decode cX10_homeBits 5 = .ok (.aload_n 0, 1) := by decide +kernel
theorem dX10_homeBits_6 : decode cX10_homeBits 6 = .ok (.getfield 29, 3) := by decide +kernel
theorem dX10_homeBits_9 : decode cX10_homeBits 9 = .ok (.if_icmp .ge 27, 3) := by decide +kernel
theorem dX10_homeBits_12 : decode cX10_homeBits 12 = .ok (.iload_n 2, 1) := by decide +kernel
theorem dX10_homeBits_13 : decode cX10_homeBits 13 = .ok (.aload_n 1, 1) := by decide +kernel
theorem dX10_homeBits_14 : decode cX10_homeBits 14 = .ok (.iload_n 3, 1) := by decide +kernel
theorem dX10_homeBits_15 : decode cX10_homeBits 15 = .ok (.iaload, 1) := by decide +kernel
theorem dX10_homeBits_16 : decode cX10_homeBits 16 = .ok (.bipush 9, 2) := by decide +kernel
theorem dX10_homeBits_18 : decode cX10_homeBits 18 = .ok (.if_icmp .ne 9, 3) := by decide +kernel
theorem dX10_homeBits_21 : decode cX10_homeBits 21 = .ok (.iconst 1, 1) := by decide +kernel
theorem dX10_homeBits_22 : decode cX10_homeBits 22 = .ok (.iload_n 3, 1) := by decide +kernel
theorem dX10_homeBits_23 : decode cX10_homeBits 23 = .ok (.ishl, 1) := by decide +kernel
theorem dX10_homeBits_24 : decode cX10_homeBits 24 = .ok (.goto 4, 3) := by decide +kernel
theorem dX10_homeBits_27 : decode cX10_homeBits 27 = .ok (.iconst 0, 1) := by decide +kernel
theorem dX10_homeBits_28 : decode cX10_homeBits 28 = .ok (.ior, 1) := by decide +kernel
theorem dX10_homeBits_29 : decode cX10_homeBits 29 = .ok (.istore_n 2, 1) := by decide +kernel
theorem dX10_homeBits_30 : decode cX10_homeBits 30 = .ok (.iinc 3 1, 3) := by decide +kernel
theorem dX10_homeBits_33 : decode cX10_homeBits 33 = .ok (.goto (-29), 3) := by decide +kernel
theorem dX10_homeBits_36 : decode cX10_homeBits 36 = .ok (.iload_n 2, 1) := by decide +kernel
theorem dX10_homeBits_37 : decode cX10_homeBits 37 = .ok (.ireturn, 1) := by decide +kernel
theorem dX10_of_0 : decode cX10_of 0 = .ok (.aload_n 0, 1) := by decide +kernel
theorem dX10_of_1 : decode cX10_of 1 = .ok (.iconst 0, 1) := by decide +kernel
theorem dX10_of_2 : decode cX10_of 2 = .ok (.putfield 3, 3) := by decide +kernel
theorem dX10_of_5 : decode cX10_of 5 = .ok (.aload_n 0, 1) := by decide +kernel
theorem dX10_of_6 : decode cX10_of 6 = .ok (.iload_n 1, 1) := by decide +kernel
theorem dX10_of_7 : decode cX10_of 7 = .ok (.invokevirtual 226, 3) := by decide +kernel
theorem dX10_of_10 : decode cX10_of 10 = .ok (.ifCond .eq 15, 3) := by decide +kernel
theorem dX10_of_13 : decode cX10_of 13 = .ok (.iload_n 2, 1) := by decide +kernel
theorem dX10_of_14 : decode cX10_of 14 = .ok (.i2l, 1) := by decide +kernel
theorem dX10_of_15 : decode cX10_of 15 = .ok (.lconst 0, 1) := by decide +kernel
theorem dX10_of_16 : decode cX10_of 16 = .ok (.ldc2_w 229, 3) := by decide +kernel
theorem dX10_of_19 : decode cX10_of 19 = .ok (.invokestatic 25, 3) := by decide +kernel
theorem dX10_of_22 : decode cX10_of 22 = .ok (.ifCond .ne 8, 3) := by decide +kernel
theorem dX10_of_25 : decode cX10_of 25 = .ok (.aload_n 0, 1) := by decide +kernel
theorem dX10_of_26 : decode cX10_of 26 = .ok (.invokevirtual 231, 3) := by decide +kernel
theorem dX10_of_29 : decode cX10_of 29 = .ok (.ireturn, 1) := by decide +kernel
theorem dX10_of_30 : decode cX10_of 30 = .ok (.iload_n 2, 1) := by decide +kernel
theorem dX10_of_31 : decode cX10_of 31 = .ok (.tableswitch 94 0 4 #[33, 40, 50, 57, 79], 33) := by decide +kernel
theorem dX10_of_64 : decode cX10_of 64 = .ok (.aload_n 0, 1) := by decide +kernel
theorem dX10_of_65 : decode cX10_of 65 = .ok (.getfield 135, 3) := by decide +kernel
theorem dX10_of_68 : decode cX10_of 68 = .ok (.iload_n 1, 1) := by decide +kernel
theorem dX10_of_69 : decode cX10_of 69 = .ok (.iaload, 1) := by decide +kernel
theorem dX10_of_70 : decode cX10_of 70 = .ok (.ireturn, 1) := by decide +kernel
theorem dX10_of_71 : decode cX10_of 71 = .ok (.aload_n 0, 1) := by decide +kernel
theorem dX10_of_72 : decode cX10_of 72 = .ok (.getfield 79, 3) := by decide +kernel
theorem dX10_of_75 : decode cX10_of 75 = .ok (.bipush 10, 2) := by decide +kernel
theorem dX10_of_77 : decode cX10_of 77 = .ok (.iload_n 1, 1) := by decide +kernel
theorem dX10_of_78 : decode cX10_of 78 = .ok (.iadd, 1) := by decide +kernel
theorem dX10_of_79 : decode cX10_of 79 = .ok (.iaload, 1) := by decide +kernel
theorem dX10_of_80 : decode cX10_of 80 = .ok (.ireturn, 1) := by decide +kernel
theorem dX10_of_81 : decode cX10_of 81 = .ok (.aload_n 0, 1) := by decide +kernel
theorem dX10_of_82 : decode cX10_of 82 = .ok (.getfield 138, 3) := by decide +kernel
theorem dX10_of_85 : decode cX10_of 85 = .ok (.iload_n 1, 1) := by decide +kernel
theorem dX10_of_86 : decode cX10_of 86 = .ok (.iaload, 1) := by decide +kernel
theorem dX10_of_87 : decode cX10_of 87 = .ok (.ireturn, 1) := by decide +kernel
theorem dX10_of_88 : decode cX10_of 88 = .ok (.aload_n 0, 1) := by decide +kernel
theorem dX10_of_89 : decode cX10_of 89 = .ok (.getfield 79, 3) := by decide +kernel
theorem dX10_of_92 : decode cX10_of 92 = .ok (.iload_n 1, 1) := by decide +kernel
theorem dX10_of_93 : decode cX10_of 93 = .ok (.iaload, 1) := by decide +kernel
theorem dX10_of_94 : decode cX10_of 94 = .ok (.bipush 9, 2) := by decide +kernel
theorem dX10_of_96 : decode cX10_of 96 = .ok (.if_icmp .ne 7, 3) := by decide +kernel
theorem dX10_of_99 : decode cX10_of 99 = .ok (.iconst (-1), 1) := by decide +kernel
theorem dX10_of_100 : decode cX10_of 100 = .ok (.goto 9, 3) := by decide +kernel
theorem dX10_of_103 : decode cX10_of 103 = .ok (.aload_n 0, 1) := by decide +kernel
theorem dX10_of_104 : decode cX10_of 104 = .ok (.getfield 79, 3) := by decide +kernel
theorem dX10_of_107 : decode cX10_of 107 = .ok (.iload_n 1, 1) := by decide +kernel
theorem dX10_of_108 : decode cX10_of 108 = .ok (.iaload, 1) := by decide +kernel
theorem dX10_of_109 : decode cX10_of 109 = .ok (.ireturn, 1) := by decide +kernel
theorem dX10_of_110 : decode cX10_of 110 = .ok (.aload_n 0, 1) := by decide +kernel
theorem dX10_of_111 : decode cX10_of 111 = .ok (.getfield 79, 3) := by decide +kernel
theorem dX10_of_114 : decode cX10_of 114 = .ok (.bipush 30, 2) := by decide +kernel
theorem dX10_of_116 : decode cX10_of 116 = .ok (.iaload, 1) := by decide +kernel
theorem dX10_of_117 : decode cX10_of 117 = .ok (.iload_n 1, 1) := by decide +kernel
theorem dX10_of_118 : decode cX10_of 118 = .ok (.invokestatic 195, 3) := by decide +kernel
theorem dX10_of_121 : decode cX10_of 121 = .ok (.invokestatic 54, 3) := by decide +kernel
theorem dX10_of_124 : decode cX10_of 124 = .ok (.ireturn, 1) := by decide +kernel
theorem dX10_of_125 : decode cX10_of 125 = .ok (.aload_n 0, 1) := by decide +kernel
theorem dX10_of_126 : decode cX10_of 126 = .ok (.getfield 79, 3) := by decide +kernel
theorem dX10_of_129 : decode cX10_of 129 = .ok (.bipush 20, 2) := by decide +kernel
theorem dX10_of_131 : decode cX10_of 131 = .ok (.iload_n 1, 1) := by decide +kernel
theorem dX10_of_132 : decode cX10_of 132 = .ok (.iadd, 1) := by decide +kernel
theorem dX10_of_133 : decode cX10_of 133 = .ok (.iaload, 1) := by decide +kernel
theorem dX10_of_134 : decode cX10_of 134 = .ok (.ireturn, 1) := by decide +kernel
theorem dX10_set_0 : decode cX10_set 0 = .ok (.aload_n 0, 1) := by decide +kernel
theorem dX10_set_1 : decode cX10_set 1 = .ok (.iconst 0, 1) := by decide +kernel
theorem dX10_set_2 : decode cX10_set 2 = .ok (.putfield 3, 3) := by decide +kernel
theorem dX10_set_5 : decode cX10_set 5 = .ok (.iload_n 1, 1) := by decide +kernel
theorem dX10_set_6 : decode cX10_set 6 = .ok (.ifCond .ne 11, 3) := by decide +kernel
theorem dX10_set_9 : decode cX10_set 9 = .ok (.aload_n 0, 1) := by decide +kernel
theorem dX10_set_10 : decode cX10_set 10 = .ok (.iload_n 3, 1) := by decide +kernel
theorem dX10_set_11 : decode cX10_set 11 = .ok (.invokevirtual 95, 3) := by decide +kernel
theorem dX10_set_14 : decode cX10_set 14 = .ok (.goto 51, 3) := by decide +kernel
theorem dX10_set_17 : decode cX10_set 17 = .ok (.iload_n 1, 1) := by decide +kernel
theorem dX10_set_18 : decode cX10_set 18 = .ok (.iconst 1, 1) := by decide +kernel
theorem dX10_set_19 : decode cX10_set 19 = .ok (.if_icmp .ne 24, 3) := by decide +kernel
theorem dX10_set_22 : decode cX10_set 22 = .ok (.iload_n 3, 1) := by decide +kernel
theorem dX10_set_23 : decode cX10_set 23 = .ok (.iconst (-1), 1) := by decide +kernel
theorem dX10_set_24 : decode cX10_set 24 = .ok (.if_icmp .eq 11, 3) := by decide +kernel
theorem dX10_set_27 : decode cX10_set 27 = .ok (.aload_n 0, 1) := by decide +kernel
theorem dX10_set_28 : decode cX10_set 28 = .ok (.iload_n 3, 1) := by decide +kernel
theorem dX10_set_29 : decode cX10_set 29 = .ok (.invokevirtual 95, 3) := by decide +kernel
theorem dX10_set_32 : decode cX10_set 32 = .ok (.ifCond .eq 7, 3) := by decide +kernel
theorem dX10_set_35 : decode cX10_set 35 = .ok (.iconst 1, 1) := by decide +kernel
theorem dX10_set_36 : decode cX10_set 36 = .ok (.goto 29, 3) := by decide +kernel
theorem dX10_set_39 : decode cX10_set 39 = .ok (.iconst 0, 1) := by decide +kernel
theorem dX10_set_40 : decode cX10_set 40 = .ok (.goto 25, 3) := by decide +kernel
theorem dX10_set_43 : decode cX10_set 43 = .ok (.iload_n 1, 1) := by decide +kernel
theorem dX10_set_44 : decode cX10_set 44 = .ok (.iconst 2, 1) := by decide +kernel
theorem dX10_set_45 : decode cX10_set 45 = .ok (.if_icmp .ne 19, 3) := by decide +kernel
theorem dX10_set_48 : decode cX10_set 48 = .ok (.iload_n 3, 1) := by decide +kernel
theorem dX10_set_49 : decode cX10_set 49 = .ok (.i2l, 1) := by decide +kernel
theorem dX10_set_50 : decode cX10_set 50 = .ok (.lconst 0, 1) := by decide +kernel
theorem dX10_set_51 : decode cX10_set 51 = .ok (.ldc2_w 234, 3) := by decide +kernel
theorem dX10_set_54 : decode cX10_set 54 = .ok (.invokestatic 25, 3) := by decide +kernel
