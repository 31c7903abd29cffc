theorem dX2_init_0 : decode cX2_init 0 = .ok (.aload_n 0, 1) := by decide +kernel
theorem dX2_init_1 : decode cX2_init 1 = .ok (.invokespecial 1, 3) := by decide +kernel
theorem dX2_init_4 : decode cX2_init 4 = .ok (.aload_n 0, 1) := by decide +kernel
theorem dX2_init_5 : decode cX2_init 5 = .ok (.bipush 54, 2) := by decide +kernel
theorem dX2_init_7 : decode cX2_init 7 = .ok (.newarray .int, 2) := by decide +kernel
theorem dX2_init_9 : decode cX2_init 9 = .ok (.putfield 9, 3) := by decide +kernel
theorem dX2_init_12 : decode cX2_init 12 = .ok (.aload_n 0, 1) := by decide +kernel
theorem dX2_init_13 : decode cX2_init 13 = .ok (.bipush 54, 2) := by decide +kernel
theorem dX2_init_15 : decode cX2_init 15 = .ok (.newarray .int, 2) := by decide +kernel
theorem dX2_init_17 : decode cX2_init 17 = .ok (.putfield 13, 3) := by decide +kernel
theorem dX2_init_20 : decode cX2_init 20 = .ok (.aload_n 0, 1) := by decide +kernel
theorem dX2_init_21 : decode cX2_init 21 = .ok (.bipush 54, 2) := by decide +kernel
theorem dX2_init_23 : decode cX2_init 23 = .ok (.newarray .int, 2) := by decide +kernel
theorem dX2_init_25 : decode cX2_init 25 = .ok (.putfield 16, 3) := by decide +kernel
theorem dX2_init_28 : decode cX2_init 28 = .ok (.aload_n 0, 1) := by decide +kernel
theorem dX2_init_29 : decode cX2_init 29 = .ok (.bipush 54, 2) := by decide +kernel
theorem dX2_init_31 : decode cX2_init 31 = .ok (.newarray .int, 2) := by decide +kernel
theorem dX2_init_33 : decode cX2_init 33 = .ok (.putfield 19, 3) := by decide +kernel
theorem dX2_init_36 : decode cX2_init 36 = .ok (.aload_n 0, 1) := by decide +kernel
theorem dX2_init_37 : decode cX2_init 37 = .ok (.bipush 96, 2) := by decide +kernel
theorem dX2_init_39 : decode cX2_init 39 = .ok (.newarray .int, 2) := by decide +kernel
theorem dX2_init_41 : decode cX2_init 41 = .ok (.putfield 22, 3) := by decide +kernel
theorem dX2_init_44 : decode cX2_init 44 = .ok (.aload_n 0, 1) := by decide +kernel
theorem dX2_init_45 : decode cX2_init 45 = .ok (.bipush 16, 2) := by decide +kernel
theorem dX2_init_47 : decode cX2_init 47 = .ok (.newarray .int, 2) := by decide +kernel
theorem dX2_init_49 : decode cX2_init 49 = .ok (.putfield 25, 3) := by decide +kernel
theorem dX2_init_52 : decode cX2_init 52 = .ok (.aload_n 0, 1) := by decide +kernel
theorem dX2_init_53 : decode cX2_init 53 = .ok (.bipush 7, 2) := by decide +kernel
theorem dX2_init_55 : decode cX2_init 55 = .ok (.newarray .int, 2) := by decide +kernel
theorem dX2_init_57 : decode cX2_init 57 = .ok (.putfield 28, 3) := by decide +kernel
theorem dX2_init_60 : decode cX2_init 60 = .ok (.aload_n 0, 1) := by decide +kernel
theorem dX2_init_61 : decode cX2_init 61 = .ok (.iconst 3, 1) := by decide +kernel
theorem dX2_init_62 : decode cX2_init 62 = .ok (.newarray .int, 2) := by decide +kernel
theorem dX2_init_64 : decode cX2_init 64 = .ok (.putfield 31, 3) := by decide +kernel
theorem dX2_init_67 : decode cX2_init 67 = .ok (.aload_n 0, 1) := by decide +kernel
theorem dX2_init_68 : decode cX2_init 68 = .ok (.getfield 9, 3) := by decide +kernel
theorem dX2_init_71 : decode cX2_init 71 = .ok (.iconst 2, 1) := by decide +kernel
theorem dX2_init_72 : decode cX2_init 72 = .ok (.iconst 1, 1) := by decide +kernel
theorem dX2_init_73 : decode cX2_init 73 = .ok (.iastore, 1) := by decide +kernel
theorem dX2_init_74 : decode cX2_init 74 = .ok (.return_, 1) := by decide +kernel
theorem dX2_isIn_0 : decode cX2_isIn 0 = .ok (.iload_n 0, 1) := by decide +kernel
theorem dX2_isIn_1 : decode cX2_isIn 1 = .ok (.iload_n 1, 1) := by decide +kernel
theorem dX2_isIn_2 : decode cX2_isIn 2 = .ok (.if_icmp .lt 12, 3) := by decide +kernel
theorem dX2_isIn_5 : decode cX2_isIn 5 = .ok (.iload_n 0, 1) := by decide +kernel
theorem dX2_isIn_6 : decode cX2_isIn 6 = .ok (.iload_n 2, 1) := by decide +kernel
theorem dX2_isIn_7 : decode cX2_isIn 7 = .ok (.if_icmp .gt 7, 3) := by decide +kernel
theorem dX2_isIn_10 : decode cX2_isIn 10 = .ok (.iconst 1, 1) := by decide +kernel
theorem dX2_isIn_11 : decode cX2_isIn 11 = .ok (.goto 4, 3) := by decide +kernel
theorem dX2_isIn_14 : decode cX2_isIn 14 = .ok (.iconst 0, 1) := by decide +kernel
theorem dX2_isIn_15 : decode cX2_isIn 15 = .ok (.ireturn, 1) := by decide +kernel
theorem dX2_most_0 : decode cX2_most 0 = .ok (.iload_n 0, 1) := by decide +kernel
theorem dX2_most_1 : decode cX2_most 1 = .ok (.iload_n 1, 1) := by decide +kernel
theorem dX2_most_2 : decode cX2_most 2 = .ok (.if_icmp .le 7, 3) := by decide +kernel
theorem dX2_most_5 : decode cX2_most 5 = .ok (.iload_n 0, 1) := by decide +kernel
theorem dX2_most_6 : decode cX2_most 6 = .ok (.goto 4, 3) := by decide +kernel
theorem dX2_most_9 : decode cX2_most 9 = .ok (.iload_n 1, 1) := by decide +kernel
theorem dX2_most_10 : decode cX2_most 10 = .ok (.ireturn, 1) := by decide +kernel
theorem dX2_copies_0 : decode cX2_copies 0 = .ok (.iconst 0, 1) := by decide +kernel
theorem dX2_copies_1 : decode cX2_copies 1 = .ok (.istore_n 2, 1) := by decide +kernel
theorem dX2_copies_2 : decode cX2_copies 2 = .ok (.iload_n 2, 1) := by decide +kernel
theorem dX2_copies_3 : decode cX2_copies 3 = .ok (.bipush 54, 2) := by decide +kernel
theorem dX2_copies_5 : decode cX2_copies 5 = .ok (.if_icmp .ge 15, 3) := by decide +kernel
theorem dX2_copies_8 : decode cX2_copies 8 = .ok (.aload_n 1, 1) := by decide +kernel
theorem dX2_copies_9 : decode cX2_copies 9 = .ok (.iload_n 2, 1) := by decide +kernel
theorem dX2_copies_10 : decode cX2_copies 10 = .ok (.aload_n 0, 1) := by decide +kernel
theorem dX2_copies_11 : decode cX2_copies 11 = .ok (.iload_n 2, 1) := by decide +kernel
theorem dX2_copies_12 : decode cX2_copies 12 = .ok (.iaload, 1) := by decide +kernel
theorem dX2_copies_13 : decode cX2_copies 13 = .ok (.iastore, 1) := by decide +kernel
theorem dX2_copies_14 : decode cX2_copies 14 = .ok (.iinc 2 1, 3) := by decide +kernel
theorem dX2_copies_17 : decode cX2_copies 17 = .ok (.goto (-15), 3) := by decide +kernel
theorem dX2_copies_20 : decode cX2_copies 20 = .ok (.return_, 1) := by decide +kernel
theorem dX2_no_0 : decode cX2_no 0 = .ok (.aload_n 0, 1) := by decide +kernel
theorem dX2_no_1 : decode cX2_no 1 = .ok (.getfield 28, 3) := by decide +kernel
theorem dX2_no_4 : decode cX2_no 4 = .ok (.iload_n 1, 1) := by decide +kernel
theorem dX2_no_5 : decode cX2_no 5 = .ok (.ineg, 1) := by decide +kernel
theorem dX2_no_6 : decode cX2_no 6 = .ok (.dup2, 1) := by decide +kernel
theorem dX2_no_7 : decode cX2_no 7 = .ok (.iaload, 1) := by decide +kernel
theorem dX2_no_8 : decode cX2_no 8 = .ok (.iconst 1, 1) := by decide +kernel
theorem dX2_no_9 : decode cX2_no 9 = .ok (.iadd, 1) := by decide +kernel
theorem dX2_no_10 : decode cX2_no 10 = .ok (.iastore, 1) := by decide +kernel
theorem dX2_no_11 : decode cX2_no 11 = .ok (.iload_n 1, 1) := by decide +kernel
theorem dX2_no_12 : decode cX2_no 12 = .ok (.ireturn, 1) := by decide +kernel
theorem dX2_noWide_0 : decode cX2_noWide 0 = .ok (.ldc2_w 34, 3) := by decide +kernel
theorem dX2_noWide_3 : decode cX2_noWide 3 = .ok (.aload_n 0, 1) := by decide +kernel
theorem dX2_noWide_4 : decode cX2_noWide 4 = .ok (.iload_n 1, 1) := by decide +kernel
theorem dX2_noWide_5 : decode cX2_noWide 5 = .ok (.invokevirtual 36, 3) := by decide +kernel
theorem dX2_noWide_8 : decode cX2_noWide 8 = .ok (.i2l, 1) := by decide +kernel
theorem dX2_noWide_9 : decode cX2_noWide 9 = .ok (.lsub, 1) := by decide +kernel
theorem dX2_noWide_10 : decode cX2_noWide 10 = .ok (.lreturn, 1) := by decide +kernel
theorem dX2_of_0 : decode cX2_of 0 = .ok (.iconst 4, 1) := by decide +kernel
theorem dX2_of_1 : decode cX2_of 1 = .ok (.iconst 5, 1) := by decide +kernel
theorem dX2_of_2 : decode cX2_of 2 = .ok (.iload_n 0, 1) := by decide +kernel
theorem dX2_of_3 : decode cX2_of 3 = .ok (.imul, 1) := by decide +kernel
theorem dX2_of_4 : decode cX2_of 4 = .ok (.iadd, 1) := by decide +kernel
theorem dX2_of_5 : decode cX2_of 5 = .ok (.iload_n 1, 1) := by decide +kernel
theorem dX2_of_6 : decode cX2_of 6 = .ok (.iadd, 1) := by decide +kernel
theorem dX2_of_7 : decode cX2_of 7 = .ok (.ireturn, 1) := by decide +kernel
theorem dX2_isThing_0 : decode cX2_isThing 0 = .ok (.iload_n 1, 1) := by decide +kernel
theorem dX2_isThing_1 : decode cX2_isThing 1 = .ok (.iconst 0, 1) := by decide +kernel
theorem dX2_isThing_2 : decode cX2_isThing 2 = .ok (.aload_n 0, 1) := by decide +kernel
theorem dX2_isThing_3 : decode cX2_isThing 3 = .ok (.getfield 9, 3) := by decide +kernel
theorem dX2_isThing_6 : decode cX2_isThing 6 = .ok (.iconst 0, 1) := by decide +kernel
theorem dX2_isThing_7 : decode cX2_isThing 7 = .ok (.iaload, 1) := by decide +kernel
theorem dX2_isThing_8 : decode cX2_isThing 8 = .ok (.iconst 1, 1) := by decide +kernel
theorem dX2_isThing_9 : decode cX2_isThing 9 = .ok (.isub, 1) := by decide +kernel
theorem dX2_isThing_10 : decode cX2_isThing 10 = .ok (.invokestatic 40, 3) := by decide +kernel
theorem dX2_isThing_13 : decode cX2_isThing 13 = .ok (.ireturn, 1) := by decide +kernel
theorem dX2_stands_0 : decode cX2_stands 0 = .ok (.aload_n 0, 1) := by decide +kernel
theorem dX2_stands_1 : decode cX2_stands 1 = .ok (.iload_n 1, 1) := by decide +kernel
theorem dX2_stands_2 : decode cX2_stands 2 = .ok (.iconst 3, 1) := by decide +kernel
theorem dX2_stands_3 : decode cX2_stands 3 = .ok (.invokestatic 44, 3) := by decide +kernel
theorem dX2_stands_6 : decode cX2_stands 6 = .ok (.iaload, 1) := by decide +kernel
theorem dX2_stands_7 : decode cX2_stands 7 = .ok (.ifCond .ne 7, 3) := by decide +kernel
theorem dX2_stands_10 : decode cX2_stands 10 = .ok (.iconst 1, 1) := by decide +kernel
theorem dX2_stands_11 : decode cX2_stands 11 = .ok (.goto 4, 3) := by decide +kernel
theorem dX2_stands_14 : decode cX2_stands 14 = .ok (.iconst 0, 1) := by decide +kernel
theorem dX2_stands_15 : decode cX2_stands 15 = .ok (.ireturn, 1) := by decide +kernel
theorem dX2_has_0 : decode cX2_has 0 = .ok (.iload_n 0, 1) := by decide +kernel
theorem dX2_has_1 : decode cX2_has 1 = .ok (.iload_n 1, 1) := by decide +kernel
theorem dX2_has_2 : decode cX2_has 2 = .ok (.ishr, 1) := by decide +kernel
theorem dX2_has_3 : decode cX2_has 3 = .ok (.iconst 1, 1) := by decide +kernel
theorem dX2_has_4 : decode cX2_has 4 = .ok (.iand, 1) := by decide +kernel
theorem dX2_has_5 : decode cX2_has 5 = .ok (.iconst 1, 1) := by decide +kernel
theorem dX2_has_6 : decode cX2_has 6 = .ok (.if_icmp .ne 7, 3) := by decide +kernel
theorem dX2_has_9 : decode cX2_has 9 = .ok (.iconst 1, 1) := by decide +kernel
theorem dX2_has_10 : decode cX2_has 10 = .ok (.goto 4, 3) := by decide +kernel
theorem dX2_has_13 : decode cX2_has 13 = .ok (.iconst 0, 1) := by decide +kernel
theorem dX2_has_14 : decode cX2_has 14 = .ok (.ireturn, 1) := by decide +kernel
theorem dX2_bits_0 : decode cX2_bits 0 = .ok (.iconst 0, 1) := by decide +kernel
theorem dX2_bits_1 : decode cX2_bits 1 = .ok (.istore_n 1, 1) := by decide +kernel
theorem dX2_bits_2 : decode cX2_bits 2 = .ok (.iconst 0, 1) := by decide +kernel
theorem dX2_bits_3 : decode cX2_bits 3 = .ok (.istore_n 2, 1) := by decide +kernel
theorem dX2_bits_4 : decode cX2_bits 4 = .ok (.iload_n 2, 1) := by decide +kernel
theorem dX2_bits_5 : decode cX2_bits 5 = .ok (.bipush 10, 2) := by decide +kernel
theorem dX2_bits_7 : decode cX2_bits 7 = .ok (.if_icmp .ge 17, 3) := by decide +kernel
theorem dX2_bits_10 : decode cX2_bits 10 = .ok (.iload_n 1, 1) := by decide +kernel
theorem dX2_bits_11 : decode cX2_bits 11 = .ok (.iload_n 0, 1) := by decide +kernel
theorem dX2_bits_12 : decode cX2_bits 12 = .ok (.iload_n 2, 1) := by decide +kernel
theorem dX2_bits_13 : decode cX2_bits 13 = .ok (.ishr, 1) := by decide +kernel
theorem dX2_bits_14 : decode cX2_bits 14 = .ok (.iconst 1, 1) := by decide +kernel
theorem dX2_bits_15 : decode cX2_bits 15 = .ok (.iand, 1) := by decide +kernel
theorem dX2_bits_16 : decode cX2_bits 16 = .ok (.iadd, 1) := by decide +kernel
theorem dX2_bits_17 : decode cX2_bits 17 = .ok (.istore_n 1, 1) := by decide +kernel
theorem dX2_bits_18 : decode cX2_bits 18 = .ok (.iinc 2 1, 3) := by decide +kernel
theorem dX2_bits_21 : decode cX2_bits 21 = .ok (.goto (-17), 3) := by decide +kernel
theorem dX2_bits_24 : decode cX2_bits 24 = .ok (.iload_n 1, 1) := by decide +kernel
theorem dX2_bits_25 : decode cX2_bits 25 = .ok (.ireturn, 1) := by decide +kernel
theorem dX2_grip_0 : decode cX2_grip 0 = .ok (.aload_n 0, 1) := by decide +kernel
theorem dX2_grip_1 : decode cX2_grip 1 = .ok (.iload_n 1, 1) := by decide +kernel
theorem dX2_grip_2 : decode cX2_grip 2 = .ok (.iconst 1, 1) := by decide +kernel
theorem dX2_grip_3 : decode cX2_grip 3 = .ok (.invokestatic 44, 3) := by decide +kernel
theorem dX2_grip_6 : decode cX2_grip 6 = .ok (.iaload, 1) := by decide +kernel
theorem dX2_grip_7 : decode cX2_grip 7 = .ok (.istore_n 2, 1) := by decide +kernel
theorem dX2_grip_8 : decode cX2_grip 8 = .ok (.aload_n 0, 1) := by decide +kernel
theorem dX2_grip_9 : decode cX2_grip 9 = .ok (.iload_n 1, 1) := by decide +kernel
theorem dX2_grip_10 : decode cX2_grip 10 = .ok (.iconst 0, 1) := by decide +kernel
theorem dX2_grip_11 : decode cX2_grip 11 = .ok (.invokestatic 44, 3) := by decide +kernel
theorem dX2_grip_14 : decode cX2_grip 14 = .ok (.iaload, 1) := by decide +kernel
theorem dX2_grip_15 : decode cX2_grip 15 = .ok (.tableswitch 49 1 5 #[33, 38, 42, 38, 44], 33) := by decide +kernel
theorem dX2_grip_48 : decode cX2_grip 48 = .ok (.bipush 9, 2) := by decide +kernel
theorem dX2_grip_50 : decode cX2_grip 50 = .ok (.iload_n 2, 1) := by decide +kernel
theorem dX2_grip_51 : decode cX2_grip 51 = .ok (.isub, 1) := by decide +kernel
theorem dX2_grip_52 : decode cX2_grip 52 = .ok (.ireturn, 1) := by decide +kernel
theorem dX2_grip_53 : decode cX2_grip 53 = .ok (.iload_n 2, 1) := by decide +kernel
theorem dX2_grip_54 : decode cX2_grip 54 = .ok (.iconst 2, 1) := by decide +kernel
theorem dX2_grip_55 : decode cX2_grip 55 = .ok (.idiv, 1) := by decide +kernel
theorem dX2_grip_56 : decode cX2_grip 56 = .ok (.ireturn, 1) := by decide +kernel
theorem dX2_grip_57 : decode cX2_grip 57 = .ok (.iconst 0, 1) := by decide +kernel
theorem dX2_grip_58 : decode cX2_grip 58 = .ok (.ireturn, 1) := by decide +kernel
theorem dX2_grip_59 : decode cX2_grip 59 = .ok (.bipush 10, 2) := by decide +kernel
theorem dX2_grip_61 : decode cX2_grip 61 = .ok (.iload_n 2, 1) := by decide +kernel
theorem dX2_grip_62 : decode cX2_grip 62 = .ok (.isub, 1) := by decide +kernel
theorem dX2_grip_63 : decode cX2_grip 63 = .ok (.ireturn, 1) := by decide +kernel
theorem dX2_grip_64 : decode cX2_grip 64 = .ok (.iload_n 2, 1) := by decide +kernel
theorem dX2_grip_65 : decode cX2_grip 65 = .ok (.ireturn, 1) := by decide +kernel
theorem dX2_setOf_0 : decode cX2_setOf 0 = .ok (.iconst 0, 1) := by decide +kernel
theorem dX2_setOf_1 : decode cX2_setOf 1 = .ok (.istore_n 2, 1) := by decide +kernel
theorem dX2_setOf_2 : decode cX2_setOf 2 = .ok (.iconst 0, 1) := by decide +kernel
theorem dX2_setOf_3 : decode cX2_setOf 3 = .ok (.istore_n 3, 1) := by decide +kernel
theorem dX2_setOf_4 : decode cX2_setOf 4 = .ok (.iload_n 3, 1) := by decide +kernel
theorem dX2_setOf_5 : decode cX2_setOf 5 = .ok (.aload_n 0, 1) := by decide +kernel
theorem dX2_setOf_6 : decode cX2_setOf 6 = .ok (.iconst 0, 1) := by decide +kernel
theorem dX2_setOf_7 : decode cX2_setOf 7 = .ok (.iaload, 1) := by decide +kernel
theorem dX2_setOf_8 : decode cX2_setOf 8 = .ok (.if_icmp .ge 30, 3) := by decide +kernel
theorem dX2_setOf_11 : decode cX2_setOf 11 = .ok (.iload_n 2, 1) := by decide +kernel
theorem dX2_setOf_12 : decode cX2_setOf 12 = .ok (.aload_n 0, 1) := by decide +kernel
theorem dX2_setOf_13 : decode cX2_setOf 13 = .ok (.iload_n 3, 1) := by decide +kernel
theorem dX2_setOf_14 : decode cX2_setOf 14 = .ok (.iconst 3, 1) := by decide +kernel
theorem dX2_setOf_15 : decode cX2_setOf 15 = .ok (.invokestatic 44, 3) := by decide +kernel
theorem dX2_setOf_18 : decode cX2_setOf 18 = .ok (.iaload, 1) := by decide +kernel
theorem dX2_setOf_19 : decode cX2_setOf 19 = .ok (.iload_n 1, 1) := by decide +kernel
theorem dX2_setOf_20 : decode cX2_setOf 20 = .ok (.if_icmp .ne 9, 3) := by decide +kernel
theorem dX2_setOf_23 : decode cX2_setOf 23 = .ok (.iconst 1, 1) := by decide +kernel
theorem dX2_setOf_24 : decode cX2_setOf 24 = .ok (.iload_n 3, 1) := by decide +kernel
theorem dX2_setOf_25 : decode cX2_setOf 25 = .ok (.ishl, 1) := by decide +kernel
theorem dX2_setOf_26 : decode cX2_setOf 26 = .ok (.goto 4, 3) := by decide +kernel
theorem dX2_setOf_29 : decode cX2_setOf 29 = .ok (.iconst 0, 1) := by decide +kernel
theorem dX2_setOf_30 : decode cX2_setOf 30 = .ok (.ior, 1) := by decide +kernel
theorem dX2_setOf_31 : decode cX2_setOf 31 = .ok (.istore_n 2, 1) := by decide +kernel
theorem dX2_setOf_32 : decode cX2_setOf 32 = .ok (.iinc 3 1, 3) := by decide +kernel
theorem dX2_setOf_35 : decode cX2_setOf 35 = .ok (.goto (-31), 3) := by decide +kernel
theorem dX2_setOf_38 : decode cX2_setOf 38 = .ok (.iload_n 2, 1) := by decide +kernel
theorem dX2_setOf_39 : decode cX2_setOf 39 = .ok (.ireturn, 1) := by decide +kernel
theorem dX2_habit_0 : decode cX2_habit 0 = .ok (.aload_n 0, 1) := by decide +kernel
theorem dX2_habit_1 : decode cX2_habit 1 = .ok (.iload_n 1, 1) := by decide +kernel
theorem dX2_habit_2 : decode cX2_habit 2 = .ok (.iconst 1, 1) := by decide +kernel
theorem dX2_habit_3 : decode cX2_habit 3 = .ok (.invokestatic 44, 3) := by decide +kernel
theorem dX2_habit_6 : decode cX2_habit 6 = .ok (.iaload, 1) := by decide +kernel
theorem dX2_habit_7 : decode cX2_habit 7 = .ok (.istore_n 3, 1) := by decide +kernel
theorem dX2_habit_8 : decode cX2_habit 8 = .ok (.aload_n 0, 1) := by decide +kernel
theorem dX2_habit_9 : decode cX2_habit 9 = .ok (.iload_n 1, 1) := by decide +kernel
theorem dX2_habit_10 : decode cX2_habit 10 = .ok (.iconst 0, 1) := by decide +kernel
theorem dX2_habit_11 : decode cX2_habit 11 = .ok (.invokestatic 44, 3) := by decide +kernel
theorem dX2_habit_14 : decode cX2_habit 14 = .ok (.iaload, 1) := by decide +kernel
theorem dX2_habit_15 : decode cX2_habit 15 = .ok (.tableswitch 84 1 5 #[33, 43, 49, 58, 72], 33) := by decide +kernel
theorem dX2_habit_48 : decode cX2_habit 48 = .ok (.iconst 0, 1) := by decide +kernel
theorem dX2_habit_49 : decode cX2_habit 49 = .ok (.iload_n 3, 1) := by decide +kernel
theorem dX2_habit_50 : decode cX2_habit 50 = .ok (.iconst 3, 1) := by decide +kernel
theorem dX2_habit_51 : decode cX2_habit 51 = .ok (.idiv, 1) := by decide +kernel
theorem dX2_habit_52 : decode cX2_habit 52 = .ok (.iconst 1, 1) := by decide +kernel
theorem dX2_habit_53 : decode cX2_habit 53 = .ok (.isub, 1) := by decide +kernel
theorem dX2_habit_54 : decode cX2_habit 54 = .ok (.invokestatic 48, 3) := by decide +kernel
theorem dX2_habit_57 : decode cX2_habit 57 = .ok (.ireturn, 1) := by decide +kernel
theorem dX2_habit_58 : decode cX2_habit 58 = .ok (.iload_n 3, 1) := by decide +kernel
theorem dX2_habit_59 : decode cX2_habit 59 = .ok (.iconst 3, 1) := by decide +kernel
theorem dX2_habit_60 : decode cX2_habit 60 = .ok (.idiv, 1) := by decide +kernel
theorem dX2_habit_61 : decode cX2_habit 61 = .ok (.iload_n 3, 1) := by decide +kernel
theorem dX2_habit_62 : decode cX2_habit 62 = .ok (.iadd, 1) := by decide +kernel
theorem dX2_habit_63 : decode cX2_habit 63 = .ok (.ireturn, 1) := by decide +kernel
theorem dX2_habit_64 : decode cX2_habit 64 = .ok (.iload_n 3, 1) := by decide +kernel
theorem dX2_habit_65 : decode cX2_habit 65 = .ok (.iconst 3, 1) := by decide +kernel
theorem dX2_habit_66 : decode cX2_habit 66 = .ok (.idiv, 1) := by decide +kernel
theorem dX2_habit_67 : decode cX2_habit 67 = .ok (.iload_n 3, 1) := by decide +kernel
theorem dX2_habit_68 : decode cX2_habit 68 = .ok (.iadd, 1) := by decide +kernel
theorem dX2_habit_69 : decode cX2_habit 69 = .ok (.bipush 20, 2) := by decide +kernel
theorem dX2_habit_71 : decode cX2_habit 71 = .ok (.iadd, 1) := by decide +kernel
theorem dX2_habit_72 : decode cX2_habit 72 = .ok (.ireturn, 1) := by decide +kernel
theorem dX2_habit_73 : decode cX2_habit 73 = .ok (.iload_n 2, 1) := by decide +kernel
theorem dX2_habit_74 : decode cX2_habit 74 = .ok (.ifCond .eq 7, 3) := by decide +kernel
theorem dX2_habit_77 : decode cX2_habit 77 = .ok (.iconst 0, 1) := by decide +kernel
theorem dX2_habit_78 : decode cX2_habit 78 = .ok (.goto 8, 3) := by decide +kernel
theorem dX2_habit_81 : decode cX2_habit 81 = .ok (.iload_n 3, 1) := by decide +kernel
theorem dX2_habit_82 : decode cX2_habit 82 = .ok (.iconst 3, 1) := by decide +kernel
theorem dX2_habit_83 : decode cX2_habit 83 = .ok (.idiv, 1) := by decide +kernel
theorem dX2_habit_84 : decode cX2_habit 84 = .ok (.iload_n 3, 1) := by decide +kernel
theorem dX2_habit_85 : decode cX2_habit 85 = .ok (.iadd, 1) := by decide +kernel
theorem dX2_habit_86 : decode cX2_habit 86 = .ok (.ireturn, 1) := by decide +kernel
theorem dX2_habit_87 : decode cX2_habit 87 = .ok (.iconst 0, 1) := by decide +kernel
theorem dX2_habit_88 : decode cX2_habit 88 = .ok (.iload_n 3, 1) := by decide +kernel
theorem dX2_habit_89 : decode cX2_habit 89 = .ok (.iconst 3, 1) := by decide +kernel
theorem dX2_habit_90 : decode cX2_habit 90 = .ok (.idiv, 1) := by decide +kernel
theorem dX2_habit_91 : decode cX2_habit 91 = .ok (.iconst 1, 1) := by decide +kernel
theorem dX2_habit_92 : decode cX2_habit 92 = .ok (.isub, 1) := by decide +kernel
theorem dX2_habit_93 : decode cX2_habit 93 = .ok (.invokestatic 48, 3) := by decide +kernel
theorem dX2_habit_96 : decode cX2_habit 96 = .ok (.iconst 2, 1) := by decide +kernel
theorem dX2_habit_97 : decode cX2_habit 97 = .ok (.iadd, 1) := by decide +kernel
theorem dX2_habit_98 : decode cX2_habit 98 = .ok (.ireturn, 1) := by decide +kernel
theorem dX2_habit_99 : decode cX2_habit 99 = .ok (.iload_n 3, 1) := by decide +kernel
theorem dX2_habit_100 : decode cX2_habit 100 = .ok (.iconst 3, 1) := by decide +kernel
theorem dX2_habit_101 : decode cX2_habit 101 = .ok (.idiv, 1) := by decide +kernel
theorem dX2_habit_102 : decode cX2_habit 102 = .ok (.ireturn, 1) := by decide +kernel
theorem dX2_isHeld_0 : decode cX2_isHeld 0 = .ok (.aload_n 0, 1) := by decide +kernel
theorem dX2_isHeld_1 : decode cX2_isHeld 1 = .ok (.iload_n 1, 1) := by decide +kernel
theorem dX2_isHeld_2 : decode cX2_isHeld 2 = .ok (.iconst 2, 1) := by decide +kernel
theorem dX2_isHeld_3 : decode cX2_isHeld 3 = .ok (.invokestatic 44, 3) := by decide +kernel
theorem dX2_isHeld_6 : decode cX2_isHeld 6 = .ok (.iaload, 1) := by decide +kernel
theorem dX2_isHeld_7 : decode cX2_isHeld 7 = .ok (.istore_n 2, 1) := by decide +kernel
theorem dX2_isHeld_8 : decode cX2_isHeld 8 = .ok (.aload_n 0, 1) := by decide +kernel
theorem dX2_isHeld_9 : decode cX2_isHeld 9 = .ok (.iconst 3, 1) := by decide +kernel
theorem dX2_isHeld_10 : decode cX2_isHeld 10 = .ok (.iaload, 1) := by decide +kernel
theorem dX2_isHeld_11 : decode cX2_isHeld 11 = .ok (.iload_n 1, 1) := by decide +kernel
theorem dX2_isHeld_12 : decode cX2_isHeld 12 = .ok (.invokestatic 51, 3) := by decide +kernel
theorem dX2_isHeld_15 : decode cX2_isHeld 15 = .ok (.ifCond .ne 25, 3) := by decide +kernel
theorem dX2_isHeld_18 : decode cX2_isHeld 18 = .ok (.iload_n 2, 1) := by decide +kernel
theorem dX2_isHeld_19 : decode cX2_isHeld 19 = .ok (.ifCond .ge 13, 3) := by decide +kernel
theorem dX2_isHeld_22 : decode cX2_isHeld 22 = .ok (.aload_n 0, 1) := by decide +kernel
theorem dX2_isHeld_23 : decode cX2_isHeld 23 = .ok (.iconst 2, 1) := by decide +kernel
theorem dX2_isHeld_24 : decode cX2_isHeld 24 = .ok (.iaload, 1) := by decide +kernel
theorem dX2_isHeld_25 : decode cX2_isHeld 25 = .ok (.iconst 1, 1) := by decide +kernel
theorem dX2_isHeld_26 : decode cX2_isHeld 26 = .ok (.if_icmp .ne 18, 3) := by decide +kernel
theorem dX2_isHeld_29 : decode cX2_isHeld 29 = .ok (.goto 11, 3) := by decide +kernel
theorem dX2_isHeld_32 : decode cX2_isHeld 32 = .ok (.aload_n 0, 1) := by decide +kernel
theorem dX2_isHeld_33 : decode cX2_isHeld 33 = .ok (.iload_n 2, 1) := by decide +kernel
theorem dX2_isHeld_34 : decode cX2_isHeld 34 = .ok (.invokestatic 55, 3) := by decide +kernel
theorem dX2_isHeld_37 : decode cX2_isHeld 37 = .ok (.ifCond .eq 7, 3) := by decide +kernel
theorem dX2_isHeld_40 : decode cX2_isHeld 40 = .ok (.iconst 1, 1) := by decide +kernel
theorem dX2_isHeld_41 : decode cX2_isHeld 41 = .ok (.goto 4, 3) := by decide +kernel
theorem dX2_isHeld_44 : decode cX2_isHeld 44 = .ok (.iconst 0, 1) := by decide +kernel
theorem dX2_isHeld_45 : decode cX2_isHeld 45 = .ok (.ireturn, 1) := by decide +kernel
theorem dX2_shaken_0 : decode cX2_shaken 0 = .ok (.iconst 0, 1) := by decide +kernel
theorem dX2_shaken_1 : decode cX2_shaken 1 = .ok (.istore_n 3, 1) := by decide +kernel
theorem dX2_shaken_2 : decode cX2_shaken 2 = .ok (.iconst 0, 1) := by decide +kernel
theorem dX2_shaken_3 : decode cX2_shaken 3 = .ok (.istore 4, 2) := by decide +kernel
theorem dX2_shaken_5 : decode cX2_shaken 5 = .ok (.iload 4, 2) := by decide +kernel
theorem dX2_shaken_7 : decode cX2_shaken 7 = .ok (.aload_n 0, 1) := by decide +kernel
theorem dX2_shaken_8 : decode cX2_shaken 8 = .ok (.iconst 0, 1) := by decide +kernel
theorem dX2_shaken_9 : decode cX2_shaken 9 = .ok (.iaload, 1) := by decide +kernel
theorem dX2_shaken_10 : decode cX2_shaken 10 = .ok (.if_icmp .ge 51, 3) := by decide +kernel
theorem dX2_shaken_13 : decode cX2_shaken 13 = .ok (.iload_n 3, 1) := by decide +kernel
theorem dX2_shaken_14 : decode cX2_shaken 14 = .ok (.aload_n 0, 1) := by decide +kernel
theorem dX2_shaken_15 : decode cX2_shaken 15 = .ok (.iload 4, 2) := by decide +kernel
theorem dX2_shaken_17 : decode cX2_shaken 17 = .ok (.invokestatic 55, 3) := by decide +kernel
theorem dX2_shaken_20 : decode cX2_shaken 20 = .ok (.ifCond .eq 32, 3) := by decide +kernel
theorem dX2_shaken_23 : decode cX2_shaken 23 = .ok (.aload_n 0, 1) := by decide +kernel
theorem dX2_shaken_24 : decode cX2_shaken 24 = .ok (.iload 4, 2) := by decide +kernel
theorem dX2_shaken_26 : decode cX2_shaken 26 = .ok (.iconst 2, 1) := by decide +kernel
theorem dX2_shaken_27 : decode cX2_shaken 27 = .ok (.invokestatic 44, 3) := by decide +kernel
theorem dX2_shaken_30 : decode cX2_shaken 30 = .ok (.iaload, 1) := by decide +kernel
theorem dX2_shaken_31 : decode cX2_shaken 31 = .ok (.iload_n 1, 1) := by decide +kernel
theorem dX2_shaken_32 : decode cX2_shaken 32 = .ok (.if_icmp .ne 20, 3) := by decide +kernel
theorem dX2_shaken_35 : decode cX2_shaken 35 = .ok (.aload_n 0, 1) := by decide +kernel
theorem dX2_shaken_36 : decode cX2_shaken 36 = .ok (.iload 4, 2) := by decide +kernel
theorem dX2_shaken_38 : decode cX2_shaken 38 = .ok (.invokestatic 59, 3) := by decide +kernel
theorem dX2_shaken_41 : decode cX2_shaken 41 = .ok (.iload_n 2, 1) := by decide +kernel
theorem dX2_shaken_42 : decode cX2_shaken 42 = .ok (.if_icmp .le 10, 3) := by decide +kernel
theorem dX2_shaken_45 : decode cX2_shaken 45 = .ok (.iconst 1, 1) := by decide +kernel
theorem dX2_shaken_46 : decode cX2_shaken 46 = .ok (.iload 4, 2) := by decide +kernel
theorem dX2_shaken_48 : decode cX2_shaken 48 = .ok (.ishl, 1) := by decide +kernel
theorem dX2_shaken_49 : decode cX2_shaken 49 = .ok (.goto 4, 3) := by decide +kernel
theorem dX2_shaken_52 : decode cX2_shaken 52 = .ok (.iconst 0, 1) := by decide +kernel
theorem dX2_shaken_53 : decode cX2_shaken 53 = .ok (.ior, 1) := by decide +kernel
theorem dX2_shaken_54 : decode cX2_shaken 54 = .ok (.istore_n 3, 1) := by decide +kernel
theorem dX2_shaken_55 : decode cX2_shaken 55 = .ok (.iinc 4 1, 3) := by decide +kernel
theorem dX2_shaken_58 : decode cX2_shaken 58 = .ok (.goto (-53), 3) := by decide +kernel
theorem dX2_shaken_61 : decode cX2_shaken 61 = .ok (.iload_n 3, 1) := by decide +kernel
theorem dX2_shaken_62 : decode cX2_shaken 62 = .ok (.ireturn, 1) := by decide +kernel
theorem dX2_pullsIn_0 : decode cX2_pullsIn 0 = .ok (.aload_n 0, 1) := by decide +kernel
theorem dX2_pullsIn_1 : decode cX2_pullsIn 1 = .ok (.iload_n 1, 1) := by decide +kernel
theorem dX2_pullsIn_2 : decode cX2_pullsIn 2 = .ok (.iload_n 2, 1) := by decide +kernel
theorem dX2_pullsIn_3 : decode cX2_pullsIn 3 = .ok (.invokestatic 63, 3) := by decide +kernel
theorem dX2_pullsIn_6 : decode cX2_pullsIn 6 = .ok (.istore_n 3, 1) := by decide +kernel
theorem dX2_pullsIn_7 : decode cX2_pullsIn 7 = .ok (.iload_n 1, 1) := by decide +kernel
theorem dX2_pullsIn_8 : decode cX2_pullsIn 8 = .ok (.ifCond .ge 10, 3) := by decide +kernel
theorem dX2_pullsIn_11 : decode cX2_pullsIn 11 = .ok (.aload_n 0, 1) := by decide +kernel
theorem dX2_pullsIn_12 : decode cX2_pullsIn 12 = .ok (.iconst 2, 1) := by decide +kernel
theorem dX2_pullsIn_13 : decode cX2_pullsIn 13 = .ok (.iconst 0, 1) := by decide +kernel
theorem dX2_pullsIn_14 : decode cX2_pullsIn 14 = .ok (.iastore, 1) := by decide +kernel
theorem dX2_pullsIn_15 : decode cX2_pullsIn 15 = .ok (.goto 11, 3) := by decide +kernel
theorem dX2_pullsIn_18 : decode cX2_pullsIn 18 = .ok (.aload_n 0, 1) := by decide +kernel
theorem dX2_pullsIn_19 : decode cX2_pullsIn 19 = .ok (.iload_n 1, 1) := by decide +kernel
theorem dX2_pullsIn_20 : decode cX2_pullsIn 20 = .ok (.iconst 3, 1) := by decide +kernel
theorem dX2_pullsIn_21 : decode cX2_pullsIn 21 = .ok (.invokestatic 44, 3) := by decide +kernel
theorem dX2_pullsIn_24 : decode cX2_pullsIn 24 = .ok (.iconst 2, 1) := by decide +kernel
theorem dX2_pullsIn_25 : decode cX2_pullsIn 25 = .ok (.iastore, 1) := by decide +kernel
theorem dX2_pullsIn_26 : decode cX2_pullsIn 26 = .ok (.iconst 0, 1) := by decide +kernel
theorem dX2_pullsIn_27 : decode cX2_pullsIn 27 = .ok (.istore 4, 2) := by decide +kernel
theorem dX2_pullsIn_29 : decode cX2_pullsIn 29 = .ok (.iload 4, 2) := by decide +kernel
theorem dX2_pullsIn_31 : decode cX2_pullsIn 31 = .ok (.aload_n 0, 1) := by decide +kernel
theorem dX2_pullsIn_32 : decode cX2_pullsIn 32 = .ok (.iconst 0, 1) := by decide +kernel
theorem dX2_pullsIn_33 : decode cX2_pullsIn 33 = .ok (.iaload, 1) := by decide +kernel
theorem dX2_pullsIn_34 : decode cX2_pullsIn 34 = .ok (.if_icmp .ge 38, 3) := by decide +kernel
theorem dX2_pullsIn_37 : decode cX2_pullsIn 37 = .ok (.aload_n 0, 1) := by decide +kernel
theorem dX2_pullsIn_38 : decode cX2_pullsIn 38 = .ok (.iload 4, 2) := by decide +kernel
theorem dX2_pullsIn_40 : decode cX2_pullsIn 40 = .ok (.iconst 3, 1) := by decide +kernel
theorem dX2_pullsIn_41 : decode cX2_pullsIn 41 = .ok (.invokestatic 44, 3) := by decide +kernel
theorem dX2_pullsIn_44 : decode cX2_pullsIn 44 = .ok (.iload_n 3, 1) := by decide +kernel
theorem dX2_pullsIn_45 : decode cX2_pullsIn 45 = .ok (.iload 4, 2) := by decide +kernel
theorem dX2_pullsIn_47 : decode cX2_pullsIn 47 = .ok (.invokestatic 51, 3) := by decide +kernel
theorem dX2_pullsIn_50 : decode cX2_pullsIn 50 = .ok (.ifCond .eq 7, 3) := by decide +kernel
theorem dX2_pullsIn_53 : decode cX2_pullsIn 53 = .ok (.iconst 1, 1) := by decide +kernel
theorem dX2_pullsIn_54 : decode cX2_pullsIn 54 = .ok (.goto 11, 3) := by decide +kernel
theorem dX2_pullsIn_57 : decode cX2_pullsIn 57 = .ok (.aload_n 0, 1) := by decide +kernel
theorem dX2_pullsIn_58 : decode cX2_pullsIn 58 = .ok (.iload 4, 2) := by decide +kernel
theorem dX2_pullsIn_60 : decode cX2_pullsIn 60 = .ok (.iconst 3, 1) := by decide +kernel
theorem dX2_pullsIn_61 : decode cX2_pullsIn 61 = .ok (.invokestatic 44, 3) := by decide +kernel
theorem dX2_pullsIn_64 : decode cX2_pullsIn 64 = .ok (.iaload, 1) := by decide +kernel
theorem dX2_pullsIn_65 : decode cX2_pullsIn 65 = .ok (.iastore, 1) := by decide +kernel
theorem dX2_pullsIn_66 : decode cX2_pullsIn 66 = .ok (.iinc 4 1, 3) := by decide +kernel
theorem dX2_pullsIn_69 : decode cX2_pullsIn 69 = .ok (.goto (-40), 3) := by decide +kernel
theorem dX2_pullsIn_72 : decode cX2_pullsIn 72 = .ok (.iload_n 3, 1) := by decide +kernel
theorem dX2_pullsIn_73 : decode cX2_pullsIn 73 = .ok (.invokestatic 67, 3) := by decide +kernel
theorem dX2_pullsIn_76 : decode cX2_pullsIn 76 = .ok (.ireturn, 1) := by decide +kernel
theorem dX2_minute_0 : decode cX2_minute 0 = .ok (.aload_n 0, 1) := by decide +kernel
theorem dX2_minute_1 : decode cX2_minute 1 = .ok (.iconst 1, 1) := by decide +kernel
theorem dX2_minute_2 : decode cX2_minute 2 = .ok (.dup2, 1) := by decide +kernel
theorem dX2_minute_3 : decode cX2_minute 3 = .ok (.iaload, 1) := by decide +kernel
theorem dX2_minute_4 : decode cX2_minute 4 = .ok (.iconst 1, 1) := by decide +kernel
theorem dX2_minute_5 : decode cX2_minute 5 = .ok (.iadd, 1) := by decide +kernel
theorem dX2_minute_6 : decode cX2_minute 6 = .ok (.iastore, 1) := by decide +kernel
theorem dX2_minute_7 : decode cX2_minute 7 = .ok (.iconst 0, 1) := by decide +kernel
theorem dX2_minute_8 : decode cX2_minute 8 = .ok (.istore_n 2, 1) := by decide +kernel
theorem dX2_minute_9 : decode cX2_minute 9 = .ok (.iconst 0, 1) := by decide +kernel
theorem dX2_minute_10 : decode cX2_minute 10 = .ok (.istore_n 3, 1) := by decide +kernel
theorem dX2_minute_11 : decode cX2_minute 11 = .ok (.iload_n 3, 1) := by decide +kernel
theorem dX2_minute_12 : decode cX2_minute 12 = .ok (.aload_n 0, 1) := by decide +kernel
theorem dX2_minute_13 : decode cX2_minute 13 = .ok (.iconst 0, 1) := by decide +kernel
theorem dX2_minute_14 : decode cX2_minute 14 = .ok (.iaload, 1) := by decide +kernel
theorem dX2_minute_15 : decode cX2_minute 15 = .ok (.if_icmp .ge 27, 3) := by decide +kernel
theorem dX2_minute_18 : decode cX2_minute 18 = .ok (.iload_n 2, 1) := by decide +kernel
theorem dX2_minute_19 : decode cX2_minute 19 = .ok (.aload_n 0, 1) := by decide +kernel
theorem dX2_minute_20 : decode cX2_minute 20 = .ok (.iload_n 3, 1) := by decide +kernel
theorem dX2_minute_21 : decode cX2_minute 21 = .ok (.invokestatic 70, 3) := by decide +kernel
theorem dX2_minute_24 : decode cX2_minute 24 = .ok (.ifCond .eq 9, 3) := by decide +kernel
theorem dX2_minute_27 : decode cX2_minute 27 = .ok (.iconst 1, 1) := by decide +kernel
theorem dX2_minute_28 : decode cX2_minute 28 = .ok (.iload_n 3, 1) := by decide +kernel
theorem dX2_minute_29 : decode cX2_minute 29 = .ok (.ishl, 1) := by decide +kernel
theorem dX2_minute_30 : decode cX2_minute 30 = .ok (.goto 4, 3) := by decide +kernel
theorem dX2_minute_33 : decode cX2_minute 33 = .ok (.iconst 0, 1) := by decide +kernel
theorem dX2_minute_34 : decode cX2_minute 34 = .ok (.ior, 1) := by decide +kernel
theorem dX2_minute_35 : decode cX2_minute 35 = .ok (.istore_n 2, 1) := by decide +kernel
theorem dX2_minute_36 : decode cX2_minute 36 = .ok (.iinc 3 1, 3) := by decide +kernel
theorem dX2_minute_39 : decode cX2_minute 39 = .ok (.goto (-28), 3) := by decide +kernel
theorem dX2_minute_42 : decode cX2_minute 42 = .ok (.aload_n 0, 1) := by decide +kernel
theorem dX2_minute_43 : decode cX2_minute 43 = .ok (.iconst 1, 1) := by decide +kernel
theorem dX2_minute_44 : decode cX2_minute 44 = .ok (.invokestatic 73, 3) := by decide +kernel
theorem dX2_minute_47 : decode cX2_minute 47 = .ok (.ifCond .eq 7, 3) := by decide +kernel
theorem dX2_minute_50 : decode cX2_minute 50 = .ok (.iconst 1, 1) := by decide +kernel
theorem dX2_minute_51 : decode cX2_minute 51 = .ok (.goto 4, 3) := by decide +kernel
theorem dX2_minute_54 : decode cX2_minute 54 = .ok (.iconst 0, 1) := by decide +kernel
theorem dX2_minute_55 : decode cX2_minute 55 = .ok (.istore_n 3, 1) := by decide +kernel
theorem dX2_minute_56 : decode cX2_minute 56 = .ok (.iconst 0, 1) := by decide +kernel
theorem dX2_minute_57 : decode cX2_minute 57 = .ok (.istore 4, 2) := by decide +kernel
theorem dX2_minute_59 : decode cX2_minute 59 = .ok (.iload 4, 2) := by decide +kernel
theorem dX2_minute_61 : decode cX2_minute 61 = .ok (.aload_n 0, 1) := by decide +kernel
theorem dX2_minute_62 : decode cX2_minute 62 = .ok (.iconst 0, 1) := by decide +kernel
theorem dX2_minute_63 : decode cX2_minute 63 = .ok (.iaload, 1) := by decide +kernel
theorem dX2_minute_64 : decode cX2_minute 64 = .ok (.if_icmp .ge 54, 3) := by decide +kernel
theorem dX2_minute_67 : decode cX2_minute 67 = .ok (.aload_n 0, 1) := by decide +kernel
theorem dX2_minute_68 : decode cX2_minute 68 = .ok (.iload 4, 2) := by decide +kernel
theorem dX2_minute_70 : decode cX2_minute 70 = .ok (.invokestatic 55, 3) := by decide +kernel
theorem dX2_minute_73 : decode cX2_minute 73 = .ok (.ifCond .ne 6, 3) := by decide +kernel
theorem dX2_minute_76 : decode cX2_minute 76 = .ok (.goto 36, 3) := by decide +kernel
theorem dX2_minute_79 : decode cX2_minute 79 = .ok (.aload_n 0, 1) := by decide +kernel
theorem dX2_minute_80 : decode cX2_minute 80 = .ok (.iload 4, 2) := by decide +kernel
theorem dX2_minute_82 : decode cX2_minute 82 = .ok (.iconst 4, 1) := by decide +kernel
theorem dX2_minute_83 : decode cX2_minute 83 = .ok (.invokestatic 44, 3) := by decide +kernel
theorem dX2_minute_86 : decode cX2_minute 86 = .ok (.iload_n 2, 1) := by decide +kernel
theorem dX2_minute_87 : decode cX2_minute 87 = .ok (.iload 4, 2) := by decide +kernel
theorem dX2_minute_89 : decode cX2_minute 89 = .ok (.invokestatic 51, 3) := by decide +kernel
theorem dX2_minute_92 : decode cX2_minute 92 = .ok (.ifCond .eq 7, 3) := by decide +kernel
theorem dX2_minute_95 : decode cX2_minute 95 = .ok (.iconst 0, 1) := by decide +kernel
theorem dX2_minute_96 : decode cX2_minute 96 = .ok (.goto 15, 3) := by decide +kernel
theorem dX2_minute_99 : decode cX2_minute 99 = .ok (.aload_n 0, 1) := by decide +kernel
theorem dX2_minute_100 : decode cX2_minute 100 = .ok (.iload 4, 2) := by decide +kernel
theorem dX2_minute_102 : decode cX2_minute 102 = .ok (.iconst 4, 1) := by decide +kernel
theorem dX2_minute_103 : decode cX2_minute 103 = .ok (.invokestatic 44, 3) := by decide +kernel
theorem dX2_minute_106 : decode cX2_minute 106 = .ok (.iaload, 1) := by decide +kernel
theorem dX2_minute_107 : decode cX2_minute 107 = .ok (.iconst 1, 1) := by decide +kernel
theorem dX2_minute_108 : decode cX2_minute 108 = .ok (.iadd, 1) := by decide +kernel
theorem dX2_minute_109 : decode cX2_minute 109 = .ok (.iload_n 1, 1) := by decide +kernel
theorem dX2_minute_110 : decode cX2_minute 110 = .ok (.iadd, 1) := by decide +kernel
theorem dX2_minute_111 : decode cX2_minute 111 = .ok (.iastore, 1) := by decide +kernel
theorem dX2_minute_112 : decode cX2_minute 112 = .ok (.iinc 4 1, 3) := by decide +kernel
theorem dX2_minute_115 : decode cX2_minute 115 = .ok (.goto (-56), 3) := by decide +kernel
theorem dX2_minute_118 : decode cX2_minute 118 = .ok (.iconst 0, 1) := by decide +kernel
theorem dX2_minute_119 : decode cX2_minute 119 = .ok (.istore 4, 2) := by decide +kernel
theorem dX2_minute_121 : decode cX2_minute 121 = .ok (.iload 4, 2) := by decide +kernel
theorem dX2_minute_123 : decode cX2_minute 123 = .ok (.aload_n 0, 1) := by decide +kernel
theorem dX2_minute_124 : decode cX2_minute 124 = .ok (.iconst 0, 1) := by decide +kernel
theorem dX2_minute_125 : decode cX2_minute 125 = .ok (.iaload, 1) := by decide +kernel
theorem dX2_minute_126 : decode cX2_minute 126 = .ok (.if_icmp .ge 45, 3) := by decide +kernel
theorem dX2_minute_129 : decode cX2_minute 129 = .ok (.aload_n 0, 1) := by decide +kernel
theorem dX2_minute_130 : decode cX2_minute 130 = .ok (.iload 4, 2) := by decide +kernel
theorem dX2_minute_132 : decode cX2_minute 132 = .ok (.invokestatic 55, 3) := by decide +kernel
theorem dX2_minute_135 : decode cX2_minute 135 = .ok (.ifCond .eq 30, 3) := by decide +kernel
theorem dX2_minute_138 : decode cX2_minute 138 = .ok (.aload_n 0, 1) := by decide +kernel
theorem dX2_minute_139 : decode cX2_minute 139 = .ok (.iload 4, 2) := by decide +kernel
theorem dX2_minute_141 : decode cX2_minute 141 = .ok (.iconst 4, 1) := by decide +kernel
theorem dX2_minute_142 : decode cX2_minute 142 = .ok (.invokestatic 44, 3) := by decide +kernel
theorem dX2_minute_145 : decode cX2_minute 145 = .ok (.iaload, 1) := by decide +kernel
theorem dX2_minute_146 : decode cX2_minute 146 = .ok (.aload_n 0, 1) := by decide +kernel
theorem dX2_minute_147 : decode cX2_minute 147 = .ok (.iload 4, 2) := by decide +kernel
theorem dX2_minute_149 : decode cX2_minute 149 = .ok (.iload_n 3, 1) := by decide +kernel
theorem dX2_minute_150 : decode cX2_minute 150 = .ok (.invokestatic 76, 3) := by decide +kernel
theorem dX2_minute_153 : decode cX2_minute 153 = .ok (.if_icmp .le 12, 3) := by decide +kernel
theorem dX2_minute_156 : decode cX2_minute 156 = .ok (.aload_n 0, 1) := by decide +kernel
theorem dX2_minute_157 : decode cX2_minute 157 = .ok (.iload 4, 2) := by decide +kernel
theorem dX2_minute_159 : decode cX2_minute 159 = .ok (.iconst 3, 1) := by decide +kernel
theorem dX2_minute_160 : decode cX2_minute 160 = .ok (.invokestatic 44, 3) := by decide +kernel
theorem dX2_minute_163 : decode cX2_minute 163 = .ok (.iconst 1, 1) := by decide +kernel
theorem dX2_minute_164 : decode cX2_minute 164 = .ok (.iastore, 1) := by decide +kernel
theorem dX2_minute_165 : decode cX2_minute 165 = .ok (.iinc 4 1, 3) := by decide +kernel
theorem dX2_minute_168 : decode cX2_minute 168 = .ok (.goto (-47), 3) := by decide +kernel
theorem dX2_minute_171 : decode cX2_minute 171 = .ok (.return_, 1) := by decide +kernel
theorem dX2_minutesOn_0 : decode cX2_minutesOn 0 = .ok (.iconst 0, 1) := by decide +kernel
theorem dX2_minutesOn_1 : decode cX2_minutesOn 1 = .ok (.istore_n 2, 1) := by decide +kernel
theorem dX2_minutesOn_2 : decode cX2_minutesOn 2 = .ok (.iload_n 2, 1) := by decide +kernel
theorem dX2_minutesOn_3 : decode cX2_minutesOn 3 = .ok (.iload_n 1, 1) := by decide +kernel
theorem dX2_minutesOn_4 : decode cX2_minutesOn 4 = .ok (.if_icmp .ge 14, 3) := by decide +kernel
theorem dX2_minutesOn_7 : decode cX2_minutesOn 7 = .ok (.aload_n 0, 1) := by decide +kernel
theorem dX2_minutesOn_8 : decode cX2_minutesOn 8 = .ok (.iconst 0, 1) := by decide +kernel
theorem dX2_minutesOn_9 : decode cX2_minutesOn 9 = .ok (.invokestatic 80, 3) := by decide +kernel
theorem dX2_minutesOn_12 : decode cX2_minutesOn 12 = .ok (.iinc 2 1, 3) := by decide +kernel
theorem dX2_minutesOn_15 : decode cX2_minutesOn 15 = .ok (.goto (-13), 3) := by decide +kernel
theorem dX2_minutesOn_18 : decode cX2_minutesOn 18 = .ok (.return_, 1) := by decide +kernel
theorem dX2_letter_0 : decode cX2_letter 0 = .ok (.iload_n 1, 1) := by decide +kernel
theorem dX2_letter_1 : decode cX2_letter 1 = .ok (.ifCond .ge 10, 3) := by decide +kernel
theorem dX2_letter_4 : decode cX2_letter 4 = .ok (.aload_n 0, 1) := by decide +kernel
theorem dX2_letter_5 : decode cX2_letter 5 = .ok (.bipush (-4), 2) := by decide +kernel
theorem dX2_letter_7 : decode cX2_letter 7 = .ok (.invokevirtual 36, 3) := by decide +kernel
theorem dX2_letter_10 : decode cX2_letter 10 = .ok (.ireturn, 1) := by decide +kernel
theorem dX2_letter_11 : decode cX2_letter 11 = .ok (.iload_n 1, 1) := by decide +kernel
theorem dX2_letter_12 : decode cX2_letter 12 = .ok (.sipush 255, 3) := by decide +kernel
theorem dX2_letter_15 : decode cX2_letter 15 = .ok (.if_icmp .gt 12, 3) := by decide +kernel
theorem dX2_letter_18 : decode cX2_letter 18 = .ok (.aload_n 0, 1) := by decide +kernel
theorem dX2_letter_19 : decode cX2_letter 19 = .ok (.getfield 84, 3) := by decide +kernel
theorem dX2_letter_22 : decode cX2_letter 22 = .ok (.bipush 96, 2) := by decide +kernel
theorem dX2_letter_24 : decode cX2_letter 24 = .ok (.if_icmp .ne 10, 3) := by decide +kernel
theorem dX2_letter_27 : decode cX2_letter 27 = .ok (.aload_n 0, 1) := by decide +kernel
theorem dX2_letter_28 : decode cX2_letter 28 = .ok (.bipush (-6), 2) := by decide +kernel
theorem dX2_letter_30 : decode cX2_letter 30 = .ok (.invokevirtual 36, 3) := by decide +kernel
theorem dX2_letter_33 : decode cX2_letter 33 = .ok (.ireturn, 1) := by decide +kernel
theorem dX2_letter_34 : decode cX2_letter 34 = .ok (.aload_n 0, 1) := by decide +kernel
theorem dX2_letter_35 : decode cX2_letter 35 = .ok (.getfield 22, 3) := by decide +kernel
theorem dX2_letter_38 : decode cX2_letter 38 = .ok (.aload_n 0, 1) := by decide +kernel
theorem dX2_letter_39 : decode cX2_letter 39 = .ok (.getfield 84, 3) := by decide +kernel
theorem dX2_letter_42 : decode cX2_letter 42 = .ok (.iload_n 1, 1) := by decide +kernel
theorem dX2_letter_43 : decode cX2_letter 43 = .ok (.iastore, 1) := by decide +kernel
theorem dX2_letter_44 : decode cX2_letter 44 = .ok (.aload_n 0, 1) := by decide +kernel
theorem dX2_letter_45 : decode cX2_letter 45 = .ok (.dup, 1) := by decide +kernel
theorem dX2_letter_46 : decode cX2_letter 46 = .ok (.getfield 84, 3) := by decide +kernel
theorem dX2_letter_49 : decode cX2_letter 49 = .ok (.iconst 1, 1) := by decide +kernel
theorem dX2_letter_50 : decode cX2_letter 50 = .ok (.iadd, 1) := by decide +kernel
theorem dX2_letter_51 : decode cX2_letter 51 = .ok (.putfield 84, 3) := by decide +kernel
theorem dX2_letter_54 : decode cX2_letter 54 = .ok (.aload_n 0, 1) := by decide +kernel
theorem dX2_letter_55 : decode cX2_letter 55 = .ok (.getfield 84, 3) := by decide +kernel
theorem dX2_letter_58 : decode cX2_letter 58 = .ok (.ireturn, 1) := by decide +kernel
theorem dX2_here_0 : decode cX2_here 0 = .ok (.aload_n 0, 1) := by decide +kernel
theorem dX2_here_1 : decode cX2_here 1 = .ok (.getfield 88, 3) := by decide +kernel
theorem dX2_here_4 : decode cX2_here 4 = .ok (.aload_n 0, 1) := by decide +kernel
theorem dX2_here_5 : decode cX2_here 5 = .ok (.getfield 84, 3) := by decide +kernel
theorem dX2_here_8 : decode cX2_here 8 = .ok (.if_icmp .ge 15, 3) := by decide +kernel
theorem dX2_here_11 : decode cX2_here 11 = .ok (.aload_n 0, 1) := by decide +kernel
theorem dX2_here_12 : decode cX2_here 12 = .ok (.getfield 22, 3) := by decide +kernel
theorem dX2_here_15 : decode cX2_here 15 = .ok (.aload_n 0, 1) := by decide +kernel
theorem dX2_here_16 : decode cX2_here 16 = .ok (.getfield 88, 3) := by decide +kernel
theorem dX2_here_19 : decode cX2_here 19 = .ok (.iaload, 1) := by decide +kernel
theorem dX2_here_20 : decode cX2_here 20 = .ok (.goto 4, 3) := by decide +kernel
theorem dX2_here_23 : decode cX2_here 23 = .ok (.iconst (-1), 1) := by decide +kernel
theorem dX2_here_24 : decode cX2_here 24 = .ok (.ireturn, 1) := by decide +kernel
theorem dX2_readsNumber_0 : decode cX2_readsNumber 0 = .ok (.aload_n 0, 1) := by decide +kernel
theorem dX2_readsNumber_1 : decode cX2_readsNumber 1 = .ok (.getfield 31, 3) := by decide +kernel
theorem dX2_readsNumber_4 : decode cX2_readsNumber 4 = .ok (.iload_n 1, 1) := by decide +kernel
theorem dX2_readsNumber_5 : decode cX2_readsNumber 5 = .ok (.iconst 0, 1) := by decide +kernel
theorem dX2_readsNumber_6 : decode cX2_readsNumber 6 = .ok (.iastore, 1) := by decide +kernel
theorem dX2_readsNumber_7 : decode cX2_readsNumber 7 = .ok (.iconst 0, 1) := by decide +kernel
theorem dX2_readsNumber_8 : decode cX2_readsNumber 8 = .ok (.istore_n 3, 1) := by decide +kernel
theorem dX2_readsNumber_9 : decode cX2_readsNumber 9 = .ok (.iload_n 3, 1) := by decide +kernel
theorem dX2_readsNumber_10 : decode cX2_readsNumber 10 = .ok (.iload_n 2, 1) := by decide +kernel
theorem dX2_readsNumber_11 : decode cX2_readsNumber 11 = .ok (.if_icmp .ge 58, 3) := by decide +kernel
theorem dX2_readsNumber_14 : decode cX2_readsNumber 14 = .ok (.aload_n 0, 1) := by decide +kernel
theorem dX2_readsNumber_15 : decode cX2_readsNumber 15 = .ok (.invokevirtual 91, 3) := by decide +kernel
theorem dX2_readsNumber_18 : decode cX2_readsNumber 18 = .ok (.bipush 48, 2) := by decide +kernel
theorem dX2_readsNumber_20 : decode cX2_readsNumber 20 = .ok (.bipush 57, 2) := by decide +kernel
theorem dX2_readsNumber_22 : decode cX2_readsNumber 22 = .ok (.invokestatic 40, 3) := by decide +kernel
theorem dX2_readsNumber_25 : decode cX2_readsNumber 25 = .ok (.ifCond .ne 5, 3) := by decide +kernel
theorem dX2_readsNumber_28 : decode cX2_readsNumber 28 = .ok (.iconst 0, 1) := by decide +kernel
theorem dX2_readsNumber_29 : decode cX2_readsNumber 29 = .ok (.ireturn, 1) := by decide +kernel
theorem dX2_readsNumber_30 : decode cX2_readsNumber 30 = .ok (.aload_n 0, 1) := by decide +kernel
theorem dX2_readsNumber_31 : decode cX2_readsNumber 31 = .ok (.getfield 31, 3) := by decide +kernel
theorem dX2_readsNumber_34 : decode cX2_readsNumber 34 = .ok (.iload_n 1, 1) := by decide +kernel
theorem dX2_readsNumber_35 : decode cX2_readsNumber 35 = .ok (.bipush 10, 2) := by decide +kernel
theorem dX2_readsNumber_37 : decode cX2_readsNumber 37 = .ok (.aload_n 0, 1) := by decide +kernel
theorem dX2_readsNumber_38 : decode cX2_readsNumber 38 = .ok (.getfield 31, 3) := by decide +kernel
theorem dX2_readsNumber_41 : decode cX2_readsNumber 41 = .ok (.iload_n 1, 1) := by decide +kernel
theorem dX2_readsNumber_42 : decode cX2_readsNumber 42 = .ok (.iaload, 1) := by decide +kernel
theorem dX2_readsNumber_43 : decode cX2_readsNumber 43 = .ok (.imul, 1) := by decide +kernel
theorem dX2_readsNumber_44 : decode cX2_readsNumber 44 = .ok (.aload_n 0, 1) := by decide +kernel
theorem dX2_readsNumber_45 : decode cX2_readsNumber 45 = .ok (.invokevirtual 91, 3) := by decide +kernel
theorem dX2_readsNumber_48 : decode cX2_readsNumber 48 = .ok (.iadd, 1) := by decide +kernel
theorem dX2_readsNumber_49 : decode cX2_readsNumber 49 = .ok (.bipush 48, 2) := by decide +kernel
theorem dX2_readsNumber_51 : decode cX2_readsNumber 51 = .ok (.isub, 1) := by decide +kernel
theorem dX2_readsNumber_52 : decode cX2_readsNumber 52 = .ok (.iastore, 1) := by decide +kernel
theorem dX2_readsNumber_53 : decode cX2_readsNumber 53 = .ok (.aload_n 0, 1) := by decide +kernel
theorem dX2_readsNumber_54 : decode cX2_readsNumber 54 = .ok (.dup, 1) := by decide +kernel
theorem dX2_readsNumber_55 : decode cX2_readsNumber 55 = .ok (.getfield 88, 3) := by decide +kernel
theorem dX2_readsNumber_58 : decode cX2_readsNumber 58 = .ok (.iconst 1, 1) := by decide +kernel
theorem dX2_readsNumber_59 : decode cX2_readsNumber 59 = .ok (.iadd, 1) := by decide +kernel
theorem dX2_readsNumber_60 : decode cX2_readsNumber 60 = .ok (.putfield 88, 3) := by decide +kernel
theorem dX2_readsNumber_63 : decode cX2_readsNumber 63 = .ok (.iinc 3 1, 3) := by decide +kernel
theorem dX2_readsNumber_66 : decode cX2_readsNumber 66 = .ok (.goto (-57), 3) := by decide +kernel
theorem dX2_readsNumber_69 : decode cX2_readsNumber 69 = .ok (.iconst 1, 1) := by decide +kernel
theorem dX2_readsNumber_70 : decode cX2_readsNumber 70 = .ok (.ireturn, 1) := by decide +kernel
theorem dX2_kindBy_0 : decode cX2_kindBy 0 = .ok (.iload_n 0, 1) := by decide +kernel
theorem dX2_kindBy_1 : decode cX2_kindBy 1 = .ok (.lookupswitch 71 #[(98, 69), (99, 65), (103, 61), (112, 63), (116, 59), (119, 67)], 59) := by decide +kernel
theorem dX2_kindBy_60 : decode cX2_kindBy 60 = .ok (.iconst 0, 1) := by decide +kernel
theorem dX2_kindBy_61 : decode cX2_kindBy 61 = .ok (.ireturn, 1) := by decide +kernel
theorem dX2_kindBy_62 : decode cX2_kindBy 62 = .ok (.iconst 1, 1) := by decide +kernel
theorem dX2_kindBy_63 : decode cX2_kindBy 63 = .ok (.ireturn, 1) := by decide +kernel
theorem dX2_kindBy_64 : decode cX2_kindBy 64 = .ok (.iconst 2, 1) := by decide +kernel
theorem dX2_kindBy_65 : decode cX2_kindBy 65 = .ok (.ireturn, 1) := by decide +kernel
theorem dX2_kindBy_66 : decode cX2_kindBy 66 = .ok (.iconst 3, 1) := by decide +kernel
theorem dX2_kindBy_67 : decode cX2_kindBy 67 = .ok (.ireturn, 1) := by decide +kernel
theorem dX2_kindBy_68 : decode cX2_kindBy 68 = .ok (.iconst 4, 1) := by decide +kernel
theorem dX2_kindBy_69 : decode cX2_kindBy 69 = .ok (.ireturn, 1) := by decide +kernel
theorem dX2_kindBy_70 : decode cX2_kindBy 70 = .ok (.iconst 5, 1) := by decide +kernel
theorem dX2_kindBy_71 : decode cX2_kindBy 71 = .ok (.ireturn, 1) := by decide +kernel
theorem dX2_kindBy_72 : decode cX2_kindBy 72 = .ok (.bipush (-9), 2) := by decide +kernel
theorem dX2_kindBy_74 : decode cX2_kindBy 74 = .ok (.ireturn, 1) := by decide +kernel
theorem dX2_readsKind_0 : decode cX2_readsKind 0 = .ok (.aload_n 0, 1) := by decide +kernel
theorem dX2_readsKind_1 : decode cX2_readsKind 1 = .ok (.getfield 31, 3) := by decide +kernel
theorem dX2_readsKind_4 : decode cX2_readsKind 4 = .ok (.iconst 0, 1) := by decide +kernel
theorem dX2_readsKind_5 : decode cX2_readsKind 5 = .ok (.aload_n 0, 1) := by decide +kernel
theorem dX2_readsKind_6 : decode cX2_readsKind 6 = .ok (.invokevirtual 91, 3) := by decide +kernel
theorem dX2_readsKind_9 : decode cX2_readsKind 9 = .ok (.invokestatic 95, 3) := by decide +kernel
theorem dX2_readsKind_12 : decode cX2_readsKind 12 = .ok (.iastore, 1) := by decide +kernel
theorem dX2_readsKind_13 : decode cX2_readsKind 13 = .ok (.aload_n 0, 1) := by decide +kernel
theorem dX2_readsKind_14 : decode cX2_readsKind 14 = .ok (.dup, 1) := by decide +kernel
theorem dX2_readsKind_15 : decode cX2_readsKind 15 = .ok (.getfield 88, 3) := by decide +kernel
theorem dX2_readsKind_18 : decode cX2_readsKind 18 = .ok (.aload_n 0, 1) := by decide +kernel
theorem dX2_readsKind_19 : decode cX2_readsKind 19 = .ok (.getfield 31, 3) := by decide +kernel
theorem dX2_readsKind_22 : decode cX2_readsKind 22 = .ok (.iconst 0, 1) := by decide +kernel
theorem dX2_readsKind_23 : decode cX2_readsKind 23 = .ok (.iaload, 1) := by decide +kernel
theorem dX2_readsKind_24 : decode cX2_readsKind 24 = .ok (.ifCond .ge 7, 3) := by decide +kernel
theorem dX2_readsKind_27 : decode cX2_readsKind 27 = .ok (.iconst 0, 1) := by decide +kernel
theorem dX2_readsKind_28 : decode cX2_readsKind 28 = .ok (.goto 4, 3) := by decide +kernel
theorem dX2_readsKind_31 : decode cX2_readsKind 31 = .ok (.iconst 1, 1) := by decide +kernel
theorem dX2_readsKind_32 : decode cX2_readsKind 32 = .ok (.iadd, 1) := by decide +kernel
theorem dX2_readsKind_33 : decode cX2_readsKind 33 = .ok (.putfield 88, 3) := by decide +kernel
theorem dX2_readsKind_36 : decode cX2_readsKind 36 = .ok (.aload_n 0, 1) := by decide +kernel
theorem dX2_readsKind_37 : decode cX2_readsKind 37 = .ok (.getfield 31, 3) := by decide +kernel
theorem dX2_readsKind_40 : decode cX2_readsKind 40 = .ok (.iconst 0, 1) := by decide +kernel
theorem dX2_readsKind_41 : decode cX2_readsKind 41 = .ok (.iaload, 1) := by decide +kernel
theorem dX2_readsKind_42 : decode cX2_readsKind 42 = .ok (.ifCond .lt 7, 3) := by decide +kernel
theorem dX2_readsKind_45 : decode cX2_readsKind 45 = .ok (.iconst 1, 1) := by decide +kernel
theorem dX2_readsKind_46 : decode cX2_readsKind 46 = .ok (.goto 4, 3) := by decide +kernel
theorem dX2_readsKind_49 : decode cX2_readsKind 49 = .ok (.iconst 0, 1) := by decide +kernel
theorem dX2_readsKind_50 : decode cX2_readsKind 50 = .ok (.ireturn, 1) := by decide +kernel
theorem dX2_readsStatement_0 : decode cX2_readsStatement 0 = .ok (.aload_n 0, 1) := by decide +kernel
theorem dX2_readsStatement_1 : decode cX2_readsStatement 1 = .ok (.invokevirtual 91, 3) := by decide +kernel
theorem dX2_readsStatement_4 : decode cX2_readsStatement 4 = .ok (.istore_n 1, 1) := by decide +kernel
theorem dX2_readsStatement_5 : decode cX2_readsStatement 5 = .ok (.aload_n 0, 1) := by decide +kernel
theorem dX2_readsStatement_6 : decode cX2_readsStatement 6 = .ok (.dup, 1) := by decide +kernel
theorem dX2_readsStatement_7 : decode cX2_readsStatement 7 = .ok (.getfield 88, 3) := by decide +kernel
theorem dX2_readsStatement_10 : decode cX2_readsStatement 10 = .ok (.iconst 1, 1) := by decide +kernel
theorem dX2_readsStatement_11 : decode cX2_readsStatement 11 = .ok (.iadd, 1) := by decide +kernel
theorem dX2_readsStatement_12 : decode cX2_readsStatement 12 = .ok (.putfield 88, 3) := by decide +kernel
theorem dX2_readsStatement_15 : decode cX2_readsStatement 15 = .ok (.iload_n 1, 1) := by decide +kernel
theorem dX2_readsStatement_16 : decode cX2_readsStatement 16 = .ok (.tableswitch 190 102 116 #[170, 190, 170, 190, 190, 190, 190, 180, 190, 109, 143, 190, 190, 190, 76], 76) := by decide +kernel
theorem dX2_readsStatement_92 : decode cX2_readsStatement 92 = .ok (.aload_n 0, 1) := by decide +kernel
theorem dX2_readsStatement_93 : decode cX2_readsStatement 93 = .ok (.invokevirtual 98, 3) := by decide +kernel
theorem dX2_readsStatement_96 : decode cX2_readsStatement 96 = .ok (.ifCond .eq 16, 3) := by decide +kernel
theorem dX2_readsStatement_99 : decode cX2_readsStatement 99 = .ok (.aload_n 0, 1) := by decide +kernel
theorem dX2_readsStatement_100 : decode cX2_readsStatement 100 = .ok (.iconst 1, 1) := by decide +kernel
theorem dX2_readsStatement_101 : decode cX2_readsStatement 101 = .ok (.iconst 1, 1) := by decide +kernel
theorem dX2_readsStatement_102 : decode cX2_readsStatement 102 = .ok (.invokevirtual 102, 3) := by decide +kernel
theorem dX2_readsStatement_105 : decode cX2_readsStatement 105 = .ok (.ifCond .eq 7, 3) := by decide +kernel
theorem dX2_readsStatement_108 : decode cX2_readsStatement 108 = .ok (.iconst 1, 1) := by decide +kernel
theorem dX2_readsStatement_109 : decode cX2_readsStatement 109 = .ok (.goto 4, 3) := by decide +kernel
theorem dX2_readsStatement_112 : decode cX2_readsStatement 112 = .ok (.iconst 0, 1) := by decide +kernel
theorem dX2_readsStatement_113 : decode cX2_readsStatement 113 = .ok (.istore_n 2, 1) := by decide +kernel
theorem dX2_readsStatement_114 : decode cX2_readsStatement 114 = .ok (.aload_n 0, 1) := by decide +kernel
theorem dX2_readsStatement_115 : decode cX2_readsStatement 115 = .ok (.getfield 31, 3) := by decide +kernel
theorem dX2_readsStatement_118 : decode cX2_readsStatement 118 = .ok (.iconst 2, 1) := by decide +kernel
theorem dX2_readsStatement_119 : decode cX2_readsStatement 119 = .ok (.bipush (-9), 2) := by decide +kernel
theorem dX2_readsStatement_121 : decode cX2_readsStatement 121 = .ok (.iastore, 1) := by decide +kernel
theorem dX2_readsStatement_122 : decode cX2_readsStatement 122 = .ok (.goto 96, 3) := by decide +kernel
theorem dX2_readsStatement_125 : decode cX2_readsStatement 125 = .ok (.aload_n 0, 1) := by decide +kernel
theorem dX2_readsStatement_126 : decode cX2_readsStatement 126 = .ok (.invokevirtual 98, 3) := by decide +kernel
theorem dX2_readsStatement_129 : decode cX2_readsStatement 129 = .ok (.ifCond .eq 25, 3) := by decide +kernel
theorem dX2_readsStatement_132 : decode cX2_readsStatement 132 = .ok (.aload_n 0, 1) := by decide +kernel
theorem dX2_readsStatement_133 : decode cX2_readsStatement 133 = .ok (.iconst 1, 1) := by decide +kernel
theorem dX2_readsStatement_134 : decode cX2_readsStatement 134 = .ok (.iconst 1, 1) := by decide +kernel
theorem dX2_readsStatement_135 : decode cX2_readsStatement 135 = .ok (.invokevirtual 102, 3) := by decide +kernel
theorem dX2_readsStatement_138 : decode cX2_readsStatement 138 = .ok (.ifCond .eq 16, 3) := by decide +kernel
theorem dX2_readsStatement_141 : decode cX2_readsStatement 141 = .ok (.aload_n 0, 1) := by decide +kernel
theorem dX2_readsStatement_142 : decode cX2_readsStatement 142 = .ok (.iconst 2, 1) := by decide +kernel
theorem dX2_readsStatement_143 : decode cX2_readsStatement 143 = .ok (.iconst 1, 1) := by decide +kernel
theorem dX2_readsStatement_144 : decode cX2_readsStatement 144 = .ok (.invokevirtual 102, 3) := by decide +kernel
theorem dX2_readsStatement_147 : decode cX2_readsStatement 147 = .ok (.ifCond .eq 7, 3) := by decide +kernel
theorem dX2_readsStatement_150 : decode cX2_readsStatement 150 = .ok (.iconst 1, 1) := by decide +kernel
theorem dX2_readsStatement_151 : decode cX2_readsStatement 151 = .ok (.goto 4, 3) := by decide +kernel
theorem dX2_readsStatement_154 : decode cX2_readsStatement 154 = .ok (.iconst 0, 1) := by decide +kernel
theorem dX2_readsStatement_155 : decode cX2_readsStatement 155 = .ok (.istore_n 2, 1) := by decide +kernel
theorem dX2_readsStatement_156 : decode cX2_readsStatement 156 = .ok (.goto 62, 3) := by decide +kernel
theorem dX2_readsStatement_159 : decode cX2_readsStatement 159 = .ok (.aload_n 0, 1) := by decide +kernel
theorem dX2_readsStatement_160 : decode cX2_readsStatement 160 = .ok (.iconst 0, 1) := by decide +kernel
theorem dX2_readsStatement_161 : decode cX2_readsStatement 161 = .ok (.iconst 1, 1) := by decide +kernel
theorem dX2_readsStatement_162 : decode cX2_readsStatement 162 = .ok (.invokevirtual 102, 3) := by decide +kernel
theorem dX2_readsStatement_165 : decode cX2_readsStatement 165 = .ok (.ifCond .eq 16, 3) := by decide +kernel
theorem dX2_readsStatement_168 : decode cX2_readsStatement 168 = .ok (.aload_n 0, 1) := by decide +kernel
theorem dX2_readsStatement_169 : decode cX2_readsStatement 169 = .ok (.iconst 1, 1) := by decide +kernel
theorem dX2_readsStatement_170 : decode cX2_readsStatement 170 = .ok (.iconst 1, 1) := by decide +kernel
theorem dX2_readsStatement_171 : decode cX2_readsStatement 171 = .ok (.invokevirtual 102, 3) := by decide +kernel
theorem dX2_readsStatement_174 : decode cX2_readsStatement 174 = .ok (.ifCond .eq 7, 3) := by decide +kernel
theorem dX2_readsStatement_177 : decode cX2_readsStatement 177 = .ok (.iconst 1, 1) := by decide +kernel
theorem dX2_readsStatement_178 : decode cX2_readsStatement 178 = .ok (.goto 4, 3) := by decide +kernel
theorem dX2_readsStatement_181 : decode cX2_readsStatement 181 = .ok (.iconst 0, 1) := by decide +kernel
theorem dX2_readsStatement_182 : decode cX2_readsStatement 182 = .ok (.istore_n 2, 1) := by decide +kernel
theorem dX2_readsStatement_183 : decode cX2_readsStatement 183 = .ok (.goto 35, 3) := by decide +kernel
theorem dX2_readsStatement_186 : decode cX2_readsStatement 186 = .ok (.aload_n 0, 1) := by decide +kernel
theorem dX2_readsStatement_187 : decode cX2_readsStatement 187 = .ok (.iconst 0, 1) := by decide +kernel
theorem dX2_readsStatement_188 : decode cX2_readsStatement 188 = .ok (.iconst 1, 1) := by decide +kernel
theorem dX2_readsStatement_189 : decode cX2_readsStatement 189 = .ok (.invokevirtual 102, 3) := by decide +kernel
theorem dX2_readsStatement_192 : decode cX2_readsStatement 192 = .ok (.istore_n 2, 1) := by decide +kernel
theorem dX2_readsStatement_193 : decode cX2_readsStatement 193 = .ok (.goto 25, 3) := by decide +kernel
theorem dX2_readsStatement_196 : decode cX2_readsStatement 196 = .ok (.aload_n 0, 1) := by decide +kernel
theorem dX2_readsStatement_197 : decode cX2_readsStatement 197 = .ok (.iconst 0, 1) := by decide +kernel
theorem dX2_readsStatement_198 : decode cX2_readsStatement 198 = .ok (.iconst 2, 1) := by decide +kernel
theorem dX2_readsStatement_199 : decode cX2_readsStatement 199 = .ok (.invokevirtual 102, 3) := by decide +kernel
theorem dX2_readsStatement_202 : decode cX2_readsStatement 202 = .ok (.istore_n 2, 1) := by decide +kernel
theorem dX2_readsStatement_203 : decode cX2_readsStatement 203 = .ok (.goto 15, 3) := by decide +kernel
theorem dX2_readsStatement_206 : decode cX2_readsStatement 206 = .ok (.aload_n 0, 1) := by decide +kernel
theorem dX2_readsStatement_207 : decode cX2_readsStatement 207 = .ok (.dup, 1) := by decide +kernel
theorem dX2_readsStatement_208 : decode cX2_readsStatement 208 = .ok (.getfield 88, 3) := by decide +kernel
theorem dX2_readsStatement_211 : decode cX2_readsStatement 211 = .ok (.iconst 1, 1) := by decide +kernel
theorem dX2_readsStatement_212 : decode cX2_readsStatement 212 = .ok (.isub, 1) := by decide +kernel
theorem dX2_readsStatement_213 : decode cX2_readsStatement 213 = .ok (.putfield 88, 3) := by decide +kernel
theorem dX2_readsStatement_216 : decode cX2_readsStatement 216 = .ok (.iconst 0, 1) := by decide +kernel
theorem dX2_readsStatement_217 : decode cX2_readsStatement 217 = .ok (.ireturn, 1) := by decide +kernel
theorem dX2_readsStatement_218 : decode cX2_readsStatement 218 = .ok (.iload_n 2, 1) := by decide +kernel
theorem dX2_readsStatement_219 : decode cX2_readsStatement 219 = .ok (.ifCond .eq 12, 3) := by decide +kernel
theorem dX2_readsStatement_222 : decode cX2_readsStatement 222 = .ok (.aload_n 0, 1) := by decide +kernel
theorem dX2_readsStatement_223 : decode cX2_readsStatement 223 = .ok (.invokevirtual 91, 3) := by decide +kernel
theorem dX2_readsStatement_226 : decode cX2_readsStatement 226 = .ok (.bipush 59, 2) := by decide +kernel
theorem dX2_readsStatement_228 : decode cX2_readsStatement 228 = .ok (.if_icmp .eq 5, 3) := by decide +kernel
theorem dX2_readsStatement_231 : decode cX2_readsStatement 231 = .ok (.iconst 0, 1) := by decide +kernel
theorem dX2_readsStatement_232 : decode cX2_readsStatement 232 = .ok (.ireturn, 1) := by decide +kernel
theorem dX2_readsStatement_233 : decode cX2_readsStatement 233 = .ok (.aload_n 0, 1) := by decide +kernel
theorem dX2_readsStatement_234 : decode cX2_readsStatement 234 = .ok (.dup, 1) := by decide +kernel
theorem dX2_readsStatement_235 : decode cX2_readsStatement 235 = .ok (.getfield 88, 3) := by decide +kernel
theorem dX2_readsStatement_238 : decode cX2_readsStatement 238 = .ok (.iconst 1, 1) := by decide +kernel
theorem dX2_readsStatement_239 : decode cX2_readsStatement 239 = .ok (.iadd, 1) := by decide +kernel
theorem dX2_readsStatement_240 : decode cX2_readsStatement 240 = .ok (.putfield 88, 3) := by decide +kernel
theorem dX2_readsStatement_243 : decode cX2_readsStatement 243 = .ok (.iconst 1, 1) := by decide +kernel
theorem dX2_readsStatement_244 : decode cX2_readsStatement 244 = .ok (.ireturn, 1) := by decide +kernel
theorem dX2_adds_0 : decode cX2_adds 0 = .ok (.iload_n 3, 1) := by decide +kernel
theorem dX2_adds_1 : decode cX2_adds 1 = .ok (.ifCond .ge 21, 3) := by decide +kernel
theorem dX2_adds_4 : decode cX2_adds 4 = .ok (.aload_n 0, 1) := by decide +kernel
theorem dX2_adds_5 : decode cX2_adds 5 = .ok (.getfield 9, 3) := by decide +kernel
theorem dX2_adds_8 : decode cX2_adds 8 = .ok (.iconst 2, 1) := by decide +kernel
theorem dX2_adds_9 : decode cX2_adds 9 = .ok (.iaload, 1) := by decide +kernel
theorem dX2_adds_10 : decode cX2_adds 10 = .ok (.iconst 1, 1) := by decide +kernel
theorem dX2_adds_11 : decode cX2_adds 11 = .ok (.if_icmp .ne 7, 3) := by decide +kernel
theorem dX2_adds_14 : decode cX2_adds 14 = .ok (.iconst 1, 1) := by decide +kernel
theorem dX2_adds_15 : decode cX2_adds 15 = .ok (.goto 31, 3) := by decide +kernel
theorem dX2_adds_18 : decode cX2_adds 18 = .ok (.iconst 0, 1) := by decide +kernel
theorem dX2_adds_19 : decode cX2_adds 19 = .ok (.goto 27, 3) := by decide +kernel
theorem dX2_adds_22 : decode cX2_adds 22 = .ok (.aload_n 0, 1) := by decide +kernel
theorem dX2_adds_23 : decode cX2_adds 23 = .ok (.iload_n 3, 1) := by decide +kernel
theorem dX2_adds_24 : decode cX2_adds 24 = .ok (.invokevirtual 105, 3) := by decide +kernel
theorem dX2_adds_27 : decode cX2_adds 27 = .ok (.ifCond .eq 18, 3) := by decide +kernel
theorem dX2_adds_30 : decode cX2_adds 30 = .ok (.aload_n 0, 1) := by decide +kernel
theorem dX2_adds_31 : decode cX2_adds 31 = .ok (.getfield 9, 3) := by decide +kernel
theorem dX2_adds_34 : decode cX2_adds 34 = .ok (.iload_n 3, 1) := by decide +kernel
theorem dX2_adds_35 : decode cX2_adds 35 = .ok (.invokestatic 55, 3) := by decide +kernel
theorem dX2_adds_38 : decode cX2_adds 38 = .ok (.ifCond .eq 7, 3) := by decide +kernel
theorem dX2_adds_41 : decode cX2_adds 41 = .ok (.iconst 1, 1) := by decide +kernel
theorem dX2_adds_42 : decode cX2_adds 42 = .ok (.goto 4, 3) := by decide +kernel
theorem dX2_adds_45 : decode cX2_adds 45 = .ok (.iconst 0, 1) := by decide +kernel
theorem dX2_adds_46 : decode cX2_adds 46 = .ok (.istore 4, 2) := by decide +kernel
theorem dX2_adds_48 : decode cX2_adds 48 = .ok (.iload 4, 2) := by decide +kernel
theorem dX2_adds_50 : decode cX2_adds 50 = .ok (.ifCond .eq 14, 3) := by decide +kernel
theorem dX2_adds_53 : decode cX2_adds 53 = .ok (.aload_n 0, 1) := by decide +kernel
theorem dX2_adds_54 : decode cX2_adds 54 = .ok (.getfield 9, 3) := by decide +kernel
theorem dX2_adds_57 : decode cX2_adds 57 = .ok (.iconst 0, 1) := by decide +kernel
theorem dX2_adds_58 : decode cX2_adds 58 = .ok (.iaload, 1) := by decide +kernel
theorem dX2_adds_59 : decode cX2_adds 59 = .ok (.bipush 10, 2) := by decide +kernel
theorem dX2_adds_61 : decode cX2_adds 61 = .ok (.if_icmp .ne 5, 3) := by decide +kernel
theorem dX2_adds_64 : decode cX2_adds 64 = .ok (.iconst 0, 1) := by decide +kernel
theorem dX2_adds_65 : decode cX2_adds 65 = .ok (.ireturn, 1) := by decide +kernel
theorem dX2_adds_66 : decode cX2_adds 66 = .ok (.aload_n 0, 1) := by decide +kernel
theorem dX2_adds_67 : decode cX2_adds 67 = .ok (.getfield 9, 3) := by decide +kernel
theorem dX2_adds_70 : decode cX2_adds 70 = .ok (.iconst 0, 1) := by decide +kernel
theorem dX2_adds_71 : decode cX2_adds 71 = .ok (.iaload, 1) := by decide +kernel
theorem dX2_adds_72 : decode cX2_adds 72 = .ok (.istore 5, 2) := by decide +kernel
theorem dX2_adds_74 : decode cX2_adds 74 = .ok (.aload_n 0, 1) := by decide +kernel
theorem dX2_adds_75 : decode cX2_adds 75 = .ok (.getfield 9, 3) := by decide +kernel
theorem dX2_adds_78 : decode cX2_adds 78 = .ok (.iload 5, 2) := by decide +kernel
theorem dX2_adds_80 : decode cX2_adds 80 = .ok (.iconst 0, 1) := by decide +kernel
theorem dX2_adds_81 : decode cX2_adds 81 = .ok (.invokestatic 44, 3) := by decide +kernel
theorem dX2_adds_84 : decode cX2_adds 84 = .ok (.iload_n 1, 1) := by decide +kernel
theorem dX2_adds_85 : decode cX2_adds 85 = .ok (.iastore, 1) := by decide +kernel
theorem dX2_adds_86 : decode cX2_adds 86 = .ok (.aload_n 0, 1) := by decide +kernel
theorem dX2_adds_87 : decode cX2_adds 87 = .ok (.getfield 9, 3) := by decide +kernel
theorem dX2_adds_90 : decode cX2_adds 90 = .ok (.iload 5, 2) := by decide +kernel
theorem dX2_adds_92 : decode cX2_adds 92 = .ok (.iconst 1, 1) := by decide +kernel
theorem dX2_adds_93 : decode cX2_adds 93 = .ok (.invokestatic 44, 3) := by decide +kernel
theorem dX2_adds_96 : decode cX2_adds 96 = .ok (.iload_n 2, 1) := by decide +kernel
theorem dX2_adds_97 : decode cX2_adds 97 = .ok (.iastore, 1) := by decide +kernel
theorem dX2_adds_98 : decode cX2_adds 98 = .ok (.aload_n 0, 1) := by decide +kernel
theorem dX2_adds_99 : decode cX2_adds 99 = .ok (.getfield 9, 3) := by decide +kernel
theorem dX2_adds_102 : decode cX2_adds 102 = .ok (.iload 5, 2) := by decide +kernel
theorem dX2_adds_104 : decode cX2_adds 104 = .ok (.iconst 2, 1) := by decide +kernel
theorem dX2_adds_105 : decode cX2_adds 105 = .ok (.invokestatic 44, 3) := by decide +kernel
theorem dX2_adds_108 : decode cX2_adds 108 = .ok (.iload_n 3, 1) := by decide +kernel
theorem dX2_adds_109 : decode cX2_adds 109 = .ok (.iastore, 1) := by decide +kernel
theorem dX2_adds_110 : decode cX2_adds 110 = .ok (.aload_n 0, 1) := by decide +kernel
theorem dX2_adds_111 : decode cX2_adds 111 = .ok (.getfield 9, 3) := by decide +kernel
theorem dX2_adds_114 : decode cX2_adds 114 = .ok (.iload 5, 2) := by decide +kernel
theorem dX2_adds_116 : decode cX2_adds 116 = .ok (.iconst 3, 1) := by decide +kernel
theorem dX2_adds_117 : decode cX2_adds 117 = .ok (.invokestatic 44, 3) := by decide +kernel
theorem dX2_adds_120 : decode cX2_adds 120 = .ok (.iconst 0, 1) := by decide +kernel
theorem dX2_adds_121 : decode cX2_adds 121 = .ok (.iastore, 1) := by decide +kernel
theorem dX2_adds_122 : decode cX2_adds 122 = .ok (.aload_n 0, 1) := by decide +kernel
theorem dX2_adds_123 : decode cX2_adds 123 = .ok (.getfield 9, 3) := by decide +kernel
theorem dX2_adds_126 : decode cX2_adds 126 = .ok (.iload 5, 2) := by decide +kernel
theorem dX2_adds_128 : decode cX2_adds 128 = .ok (.iconst 4, 1) := by decide +kernel
theorem dX2_adds_129 : decode cX2_adds 129 = .ok (.invokestatic 44, 3) := by decide +kernel
theorem dX2_adds_132 : decode cX2_adds 132 = .ok (.iconst 0, 1) := by decide +kernel
theorem dX2_adds_133 : decode cX2_adds 133 = .ok (.iastore, 1) := by decide +kernel
theorem dX2_adds_134 : decode cX2_adds 134 = .ok (.aload_n 0, 1) := by decide +kernel
theorem dX2_adds_135 : decode cX2_adds 135 = .ok (.getfield 9, 3) := by decide +kernel
theorem dX2_adds_138 : decode cX2_adds 138 = .ok (.iconst 0, 1) := by decide +kernel
theorem dX2_adds_139 : decode cX2_adds 139 = .ok (.dup2, 1) := by decide +kernel
theorem dX2_adds_140 : decode cX2_adds 140 = .ok (.iaload, 1) := by decide +kernel
theorem dX2_adds_141 : decode cX2_adds 141 = .ok (.iconst 1, 1) := by decide +kernel
theorem dX2_adds_142 : decode cX2_adds 142 = .ok (.iadd, 1) := by decide +kernel
theorem dX2_adds_143 : decode cX2_adds 143 = .ok (.iastore, 1) := by decide +kernel
theorem dX2_adds_144 : decode cX2_adds 144 = .ok (.iconst 1, 1) := by decide +kernel
theorem dX2_adds_145 : decode cX2_adds 145 = .ok (.ireturn, 1) := by decide +kernel
theorem dX2_isDone_0 : decode cX2_isDone 0 = .ok (.aload_n 0, 1) := by decide +kernel
theorem dX2_isDone_1 : decode cX2_isDone 1 = .ok (.getfield 31, 3) := by decide +kernel
theorem dX2_isDone_4 : decode cX2_isDone 4 = .ok (.iconst 0, 1) := by decide +kernel
theorem dX2_isDone_5 : decode cX2_isDone 5 = .ok (.iaload, 1) := by decide +kernel
theorem dX2_isDone_6 : decode cX2_isDone 6 = .ok (.istore_n 2, 1) := by decide +kernel
theorem dX2_isDone_7 : decode cX2_isDone 7 = .ok (.iconst 0, 1) := by decide +kernel
theorem dX2_isDone_8 : decode cX2_isDone 8 = .ok (.istore_n 3, 1) := by decide +kernel
theorem dX2_isDone_9 : decode cX2_isDone 9 = .ok (.iload_n 1, 1) := by decide +kernel
theorem dX2_isDone_10 : decode cX2_isDone 10 = .ok (.tableswitch 202 102 116 #[130, 202, 154, 202, 202, 202, 202, 202, 202, 74, 92, 202, 202, 202, 74], 74) := by decide +kernel
theorem dX2_isDone_84 : decode cX2_isDone 84 = .ok (.aload_n 0, 1) := by decide +kernel
theorem dX2_isDone_85 : decode cX2_isDone 85 = .ok (.iload_n 2, 1) := by decide +kernel
theorem dX2_isDone_86 : decode cX2_isDone 86 = .ok (.aload_n 0, 1) := by decide +kernel
theorem dX2_isDone_87 : decode cX2_isDone 87 = .ok (.getfield 31, 3) := by decide +kernel
theorem dX2_isDone_90 : decode cX2_isDone 90 = .ok (.iconst 1, 1) := by decide +kernel
theorem dX2_isDone_91 : decode cX2_isDone 91 = .ok (.iaload, 1) := by decide +kernel
theorem dX2_isDone_92 : decode cX2_isDone 92 = .ok (.aload_n 0, 1) := by decide +kernel
theorem dX2_isDone_93 : decode cX2_isDone 93 = .ok (.getfield 31, 3) := by decide +kernel
theorem dX2_isDone_96 : decode cX2_isDone 96 = .ok (.iconst 2, 1) := by decide +kernel
theorem dX2_isDone_97 : decode cX2_isDone 97 = .ok (.iaload, 1) := by decide +kernel
theorem dX2_isDone_98 : decode cX2_isDone 98 = .ok (.invokevirtual 109, 3) := by decide +kernel
theorem dX2_isDone_101 : decode cX2_isDone 101 = .ok (.ireturn, 1) := by decide +kernel
theorem dX2_isDone_102 : decode cX2_isDone 102 = .ok (.aload_n 0, 1) := by decide +kernel
theorem dX2_isDone_103 : decode cX2_isDone 103 = .ok (.iload_n 2, 1) := by decide +kernel
theorem dX2_isDone_104 : decode cX2_isDone 104 = .ok (.invokevirtual 105, 3) := by decide +kernel
theorem dX2_isDone_107 : decode cX2_isDone 107 = .ok (.ifCond .eq 14, 3) := by decide +kernel
theorem dX2_isDone_110 : decode cX2_isDone 110 = .ok (.aload_n 0, 1) := by decide +kernel
theorem dX2_isDone_111 : decode cX2_isDone 111 = .ok (.getfield 9, 3) := by decide +kernel
theorem dX2_isDone_114 : decode cX2_isDone 114 = .ok (.iload_n 2, 1) := by decide +kernel
theorem dX2_isDone_115 : decode cX2_isDone 115 = .ok (.invokestatic 55, 3) := by decide +kernel
theorem dX2_isDone_118 : decode cX2_isDone 118 = .ok (.ifCond .ne 5, 3) := by decide +kernel
theorem dX2_isDone_121 : decode cX2_isDone 121 = .ok (.iconst 0, 1) := by decide +kernel
theorem dX2_isDone_122 : decode cX2_isDone 122 = .ok (.ireturn, 1) := by decide +kernel
theorem dX2_isDone_123 : decode cX2_isDone 123 = .ok (.aload_n 0, 1) := by decide +kernel
theorem dX2_isDone_124 : decode cX2_isDone 124 = .ok (.getfield 9, 3) := by decide +kernel
theorem dX2_isDone_127 : decode cX2_isDone 127 = .ok (.iload_n 2, 1) := by decide +kernel
theorem dX2_isDone_128 : decode cX2_isDone 128 = .ok (.aload_n 0, 1) := by decide +kernel
theorem dX2_isDone_129 : decode cX2_isDone 129 = .ok (.getfield 31, 3) := by decide +kernel
theorem dX2_isDone_132 : decode cX2_isDone 132 = .ok (.iconst 1, 1) := by decide +kernel
theorem dX2_isDone_133 : decode cX2_isDone 133 = .ok (.iaload, 1) := by decide +kernel
theorem dX2_isDone_134 : decode cX2_isDone 134 = .ok (.invokestatic 112, 3) := by decide +kernel
theorem dX2_isDone_137 : decode cX2_isDone 137 = .ok (.istore_n 3, 1) := by decide +kernel
theorem dX2_isDone_138 : decode cX2_isDone 138 = .ok (.iconst 1, 1) := by decide +kernel
theorem dX2_isDone_139 : decode cX2_isDone 139 = .ok (.ireturn, 1) := by decide +kernel
theorem dX2_isDone_140 : decode cX2_isDone 140 = .ok (.aload_n 0, 1) := by decide +kernel
theorem dX2_isDone_141 : decode cX2_isDone 141 = .ok (.getfield 9, 3) := by decide +kernel
theorem dX2_isDone_144 : decode cX2_isDone 144 = .ok (.iconst 2, 1) := by decide +kernel
theorem dX2_isDone_145 : decode cX2_isDone 145 = .ok (.iaload, 1) := by decide +kernel
theorem dX2_isDone_146 : decode cX2_isDone 146 = .ok (.ifCond .ne 5, 3) := by decide +kernel
theorem dX2_isDone_149 : decode cX2_isDone 149 = .ok (.iconst 0, 1) := by decide +kernel
theorem dX2_isDone_150 : decode cX2_isDone 150 = .ok (.ireturn, 1) := by decide +kernel
theorem dX2_isDone_151 : decode cX2_isDone 151 = .ok (.aload_n 0, 1) := by decide +kernel
theorem dX2_isDone_152 : decode cX2_isDone 152 = .ok (.getfield 9, 3) := by decide +kernel
theorem dX2_isDone_155 : decode cX2_isDone 155 = .ok (.bipush (-9), 2) := by decide +kernel
theorem dX2_isDone_157 : decode cX2_isDone 157 = .ok (.iload_n 2, 1) := by decide +kernel
theorem dX2_isDone_158 : decode cX2_isDone 158 = .ok (.invokestatic 112, 3) := by decide +kernel
theorem dX2_isDone_161 : decode cX2_isDone 161 = .ok (.istore_n 3, 1) := by decide +kernel
theorem dX2_isDone_162 : decode cX2_isDone 162 = .ok (.iconst 1, 1) := by decide +kernel
theorem dX2_isDone_163 : decode cX2_isDone 163 = .ok (.ireturn, 1) := by decide +kernel
theorem dX2_isDone_164 : decode cX2_isDone 164 = .ok (.aload_n 0, 1) := by decide +kernel
theorem dX2_isDone_165 : decode cX2_isDone 165 = .ok (.iload_n 2, 1) := by decide +kernel
theorem dX2_isDone_166 : decode cX2_isDone 166 = .ok (.invokevirtual 105, 3) := by decide +kernel
theorem dX2_isDone_169 : decode cX2_isDone 169 = .ok (.ifCond .eq 17, 3) := by decide +kernel
theorem dX2_isDone_172 : decode cX2_isDone 172 = .ok (.aload_n 0, 1) := by decide +kernel
theorem dX2_isDone_173 : decode cX2_isDone 173 = .ok (.getfield 9, 3) := by decide +kernel
theorem dX2_isDone_176 : decode cX2_isDone 176 = .ok (.iload_n 2, 1) := by decide +kernel
theorem dX2_isDone_177 : decode cX2_isDone 177 = .ok (.iconst 3, 1) := by decide +kernel
theorem dX2_isDone_178 : decode cX2_isDone 178 = .ok (.invokestatic 44, 3) := by decide +kernel
theorem dX2_isDone_181 : decode cX2_isDone 181 = .ok (.iaload, 1) := by decide +kernel
theorem dX2_isDone_182 : decode cX2_isDone 182 = .ok (.iconst 2, 1) := by decide +kernel
theorem dX2_isDone_183 : decode cX2_isDone 183 = .ok (.if_icmp .ne 5, 3) := by decide +kernel
theorem dX2_isDone_186 : decode cX2_isDone 186 = .ok (.iconst 0, 1) := by decide +kernel
theorem dX2_isDone_187 : decode cX2_isDone 187 = .ok (.ireturn, 1) := by decide +kernel
theorem dX2_isDone_188 : decode cX2_isDone 188 = .ok (.aload_n 0, 1) := by decide +kernel
theorem dX2_isDone_189 : decode cX2_isDone 189 = .ok (.getfield 9, 3) := by decide +kernel
theorem dX2_isDone_192 : decode cX2_isDone 192 = .ok (.iload_n 2, 1) := by decide +kernel
theorem dX2_isDone_193 : decode cX2_isDone 193 = .ok (.iconst 3, 1) := by decide +kernel
theorem dX2_isDone_194 : decode cX2_isDone 194 = .ok (.invokestatic 44, 3) := by decide +kernel
theorem dX2_isDone_197 : decode cX2_isDone 197 = .ok (.iconst 0, 1) := by decide +kernel
theorem dX2_isDone_198 : decode cX2_isDone 198 = .ok (.iastore, 1) := by decide +kernel
theorem dX2_isDone_199 : decode cX2_isDone 199 = .ok (.aload_n 0, 1) := by decide +kernel
theorem dX2_isDone_200 : decode cX2_isDone 200 = .ok (.getfield 9, 3) := by decide +kernel
theorem dX2_isDone_203 : decode cX2_isDone 203 = .ok (.iload_n 2, 1) := by decide +kernel
theorem dX2_isDone_204 : decode cX2_isDone 204 = .ok (.iconst 4, 1) := by decide +kernel
theorem dX2_isDone_205 : decode cX2_isDone 205 = .ok (.invokestatic 44, 3) := by decide +kernel
theorem dX2_isDone_208 : decode cX2_isDone 208 = .ok (.iconst 0, 1) := by decide +kernel
theorem dX2_isDone_209 : decode cX2_isDone 209 = .ok (.iastore, 1) := by decide +kernel
theorem dX2_isDone_210 : decode cX2_isDone 210 = .ok (.iconst 1, 1) := by decide +kernel
theorem dX2_isDone_211 : decode cX2_isDone 211 = .ok (.ireturn, 1) := by decide +kernel
theorem dX2_isDone_212 : decode cX2_isDone 212 = .ok (.iload_n 2, 1) := by decide +kernel
theorem dX2_isDone_213 : decode cX2_isDone 213 = .ok (.iconst 1, 1) := by decide +kernel
theorem dX2_isDone_214 : decode cX2_isDone 214 = .ok (.bipush 60, 2) := by decide +kernel
theorem dX2_isDone_216 : decode cX2_isDone 216 = .ok (.invokestatic 40, 3) := by decide +kernel
theorem dX2_isDone_219 : decode cX2_isDone 219 = .ok (.ifCond .eq 17, 3) := by decide +kernel
theorem dX2_isDone_222 : decode cX2_isDone 222 = .ok (.aload_n 0, 1) := by decide +kernel
theorem dX2_isDone_223 : decode cX2_isDone 223 = .ok (.getfield 9, 3) := by decide +kernel
theorem dX2_isDone_226 : decode cX2_isDone 226 = .ok (.iconst 1, 1) := by decide +kernel
theorem dX2_isDone_227 : decode cX2_isDone 227 = .ok (.iaload, 1) := by decide +kernel
theorem dX2_isDone_228 : decode cX2_isDone 228 = .ok (.iload_n 2, 1) := by decide +kernel
theorem dX2_isDone_229 : decode cX2_isDone 229 = .ok (.iadd, 1) := by decide +kernel
theorem dX2_isDone_230 : decode cX2_isDone 230 = .ok (.sipush 999, 3) := by decide +kernel
theorem dX2_isDone_233 : decode cX2_isDone 233 = .ok (.if_icmp .le 5, 3) := by decide +kernel
theorem dX2_isDone_236 : decode cX2_isDone 236 = .ok (.iconst 0, 1) := by decide +kernel
theorem dX2_isDone_237 : decode cX2_isDone 237 = .ok (.ireturn, 1) := by decide +kernel
theorem dX2_isDone_238 : decode cX2_isDone 238 = .ok (.aload_n 0, 1) := by decide +kernel
theorem dX2_isDone_239 : decode cX2_isDone 239 = .ok (.getfield 9, 3) := by decide +kernel
theorem dX2_isDone_242 : decode cX2_isDone 242 = .ok (.iload_n 2, 1) := by decide +kernel
theorem dX2_isDone_243 : decode cX2_isDone 243 = .ok (.invokestatic 115, 3) := by decide +kernel
theorem dX2_isDone_246 : decode cX2_isDone 246 = .ok (.iconst 1, 1) := by decide +kernel
theorem dX2_isDone_247 : decode cX2_isDone 247 = .ok (.ireturn, 1) := by decide +kernel
theorem dX2_room_0 : decode cX2_room 0 = .ok (.aload_n 0, 1) := by decide +kernel
theorem dX2_room_1 : decode cX2_room 1 = .ok (.iconst 0, 1) := by decide +kernel
theorem dX2_room_2 : decode cX2_room 2 = .ok (.putfield 88, 3) := by decide +kernel
theorem dX2_room_5 : decode cX2_room 5 = .ok (.iconst 0, 1) := by decide +kernel
theorem dX2_room_6 : decode cX2_room 6 = .ok (.istore_n 1, 1) := by decide +kernel
theorem dX2_room_7 : decode cX2_room 7 = .ok (.bipush (-9), 2) := by decide +kernel
theorem dX2_room_9 : decode cX2_room 9 = .ok (.istore_n 2, 1) := by decide +kernel
theorem dX2_room_10 : decode cX2_room 10 = .ok (.aload_n 0, 1) := by decide +kernel
theorem dX2_room_11 : decode cX2_room 11 = .ok (.invokevirtual 118, 3) := by decide +kernel
theorem dX2_room_14 : decode cX2_room 14 = .ok (.ifCond .ne 12, 3) := by decide +kernel
theorem dX2_room_17 : decode cX2_room 17 = .ok (.sipush (-1000), 3) := by decide +kernel
theorem dX2_room_20 : decode cX2_room 20 = .ok (.aload_n 0, 1) := by decide +kernel
theorem dX2_room_21 : decode cX2_room 21 = .ok (.getfield 88, 3) := by decide +kernel
theorem dX2_room_24 : decode cX2_room 24 = .ok (.isub, 1) := by decide +kernel
theorem dX2_room_25 : decode cX2_room 25 = .ok (.istore_n 2, 1) := by decide +kernel
theorem dX2_room_26 : decode cX2_room 26 = .ok (.iinc 1 1, 3) := by decide +kernel
theorem dX2_room_29 : decode cX2_room 29 = .ok (.iload_n 2, 1) := by decide +kernel
theorem dX2_room_30 : decode cX2_room 30 = .ok (.bipush (-9), 2) := by decide +kernel
theorem dX2_room_32 : decode cX2_room 32 = .ok (.if_icmp .ne 14, 3) := by decide +kernel
theorem dX2_room_35 : decode cX2_room 35 = .ok (.aload_n 0, 1) := by decide +kernel
theorem dX2_room_36 : decode cX2_room 36 = .ok (.getfield 88, 3) := by decide +kernel
theorem dX2_room_39 : decode cX2_room 39 = .ok (.aload_n 0, 1) := by decide +kernel
theorem dX2_room_40 : decode cX2_room 40 = .ok (.getfield 84, 3) := by decide +kernel
theorem dX2_room_43 : decode cX2_room 43 = .ok (.if_icmp .lt (-33), 3) := by decide +kernel
theorem dX2_room_46 : decode cX2_room 46 = .ok (.aload_n 0, 1) := by decide +kernel
theorem dX2_room_47 : decode cX2_room 47 = .ok (.getfield 9, 3) := by decide +kernel
theorem dX2_room_50 : decode cX2_room 50 = .ok (.aload_n 0, 1) := by decide +kernel
theorem dX2_room_51 : decode cX2_room 51 = .ok (.getfield 19, 3) := by decide +kernel
theorem dX2_room_54 : decode cX2_room 54 = .ok (.invokestatic 121, 3) := by decide +kernel
theorem dX2_room_57 : decode cX2_room 57 = .ok (.aload_n 0, 1) := by decide +kernel
theorem dX2_room_58 : decode cX2_room 58 = .ok (.iconst 0, 1) := by decide +kernel
theorem dX2_room_59 : decode cX2_room 59 = .ok (.putfield 88, 3) := by decide +kernel
theorem dX2_room_62 : decode cX2_room 62 = .ok (.iload_n 2, 1) := by decide +kernel
theorem dX2_room_63 : decode cX2_room 63 = .ok (.bipush (-9), 2) := by decide +kernel
theorem dX2_room_65 : decode cX2_room 65 = .ok (.if_icmp .ne 63, 3) := by decide +kernel
theorem dX2_room_68 : decode cX2_room 68 = .ok (.aload_n 0, 1) := by decide +kernel
theorem dX2_room_69 : decode cX2_room 69 = .ok (.getfield 88, 3) := by decide +kernel
theorem dX2_room_72 : decode cX2_room 72 = .ok (.aload_n 0, 1) := by decide +kernel
theorem dX2_room_73 : decode cX2_room 73 = .ok (.getfield 84, 3) := by decide +kernel
theorem dX2_room_76 : decode cX2_room 76 = .ok (.if_icmp .ge 52, 3) := by decide +kernel
theorem dX2_room_79 : decode cX2_room 79 = .ok (.aload_n 0, 1) := by decide +kernel
theorem dX2_room_80 : decode cX2_room 80 = .ok (.getfield 88, 3) := by decide +kernel
theorem dX2_room_83 : decode cX2_room 83 = .ok (.istore_n 3, 1) := by decide +kernel
theorem dX2_room_84 : decode cX2_room 84 = .ok (.aload_n 0, 1) := by decide +kernel
theorem dX2_room_85 : decode cX2_room 85 = .ok (.invokevirtual 91, 3) := by decide +kernel
theorem dX2_room_88 : decode cX2_room 88 = .ok (.istore 4, 2) := by decide +kernel
theorem dX2_room_90 : decode cX2_room 90 = .ok (.aload_n 0, 1) := by decide +kernel
theorem dX2_room_91 : decode cX2_room 91 = .ok (.invokevirtual 118, 3) := by decide +kernel
theorem dX2_room_94 : decode cX2_room 94 = .ok (.istore 5, 2) := by decide +kernel
theorem dX2_room_96 : decode cX2_room 96 = .ok (.aload_n 0, 1) := by decide +kernel
theorem dX2_room_97 : decode cX2_room 97 = .ok (.iload 4, 2) := by decide +kernel
theorem dX2_room_99 : decode cX2_room 99 = .ok (.invokevirtual 125, 3) := by decide +kernel
theorem dX2_room_102 : decode cX2_room 102 = .ok (.ifCond .eq 6, 3) := by decide +kernel
theorem dX2_room_105 : decode cX2_room 105 = .ok (.goto (-43), 3) := by decide +kernel
theorem dX2_room_108 : decode cX2_room 108 = .ok (.sipush (-2000), 3) := by decide +kernel
theorem dX2_room_111 : decode cX2_room 111 = .ok (.iload_n 3, 1) := by decide +kernel
theorem dX2_room_112 : decode cX2_room 112 = .ok (.isub, 1) := by decide +kernel
theorem dX2_room_113 : decode cX2_room 113 = .ok (.istore_n 2, 1) := by decide +kernel
theorem dX2_room_114 : decode cX2_room 114 = .ok (.aload_n 0, 1) := by decide +kernel
theorem dX2_room_115 : decode cX2_room 115 = .ok (.getfield 19, 3) := by decide +kernel
theorem dX2_room_118 : decode cX2_room 118 = .ok (.aload_n 0, 1) := by decide +kernel
theorem dX2_room_119 : decode cX2_room 119 = .ok (.getfield 9, 3) := by decide +kernel
theorem dX2_room_122 : decode cX2_room 122 = .ok (.invokestatic 121, 3) := by decide +kernel
theorem dX2_room_125 : decode cX2_room 125 = .ok (.goto (-63), 3) := by decide +kernel
theorem dX2_room_128 : decode cX2_room 128 = .ok (.aload_n 0, 1) := by decide +kernel
theorem dX2_room_129 : decode cX2_room 129 = .ok (.iconst 0, 1) := by decide +kernel
theorem dX2_room_130 : decode cX2_room 130 = .ok (.putfield 84, 3) := by decide +kernel
theorem dX2_room_133 : decode cX2_room 133 = .ok (.iload_n 2, 1) := by decide +kernel
theorem dX2_room_134 : decode cX2_room 134 = .ok (.bipush (-9), 2) := by decide +kernel
theorem dX2_room_136 : decode cX2_room 136 = .ok (.if_icmp .ne 7, 3) := by decide +kernel
theorem dX2_room_139 : decode cX2_room 139 = .ok (.iload_n 1, 1) := by decide +kernel
theorem dX2_room_140 : decode cX2_room 140 = .ok (.goto 4, 3) := by decide +kernel
theorem dX2_room_143 : decode cX2_room 143 = .ok (.iload_n 2, 1) := by decide +kernel
theorem dX2_room_144 : decode cX2_room 144 = .ok (.ireturn, 1) := by decide +kernel
theorem dX2_thing_0 : decode cX2_thing 0 = .ok (.aload_n 0, 1) := by decide +kernel
theorem dX2_thing_1 : decode cX2_thing 1 = .ok (.iload_n 1, 1) := by decide +kernel
theorem dX2_thing_2 : decode cX2_thing 2 = .ok (.invokevirtual 105, 3) := by decide +kernel
theorem dX2_thing_5 : decode cX2_thing 5 = .ok (.ifCond .ne 9, 3) := by decide +kernel
theorem dX2_thing_8 : decode cX2_thing 8 = .ok (.aload_n 0, 1) := by decide +kernel
theorem dX2_thing_9 : decode cX2_thing 9 = .ok (.iconst (-1), 1) := by decide +kernel
theorem dX2_thing_10 : decode cX2_thing 10 = .ok (.invokevirtual 36, 3) := by decide +kernel
theorem dX2_thing_13 : decode cX2_thing 13 = .ok (.ireturn, 1) := by decide +kernel
theorem dX2_thing_14 : decode cX2_thing 14 = .ok (.iload_n 2, 1) := by decide +kernel
theorem dX2_thing_15 : decode cX2_thing 15 = .ok (.iconst 0, 1) := by decide +kernel
theorem dX2_thing_16 : decode cX2_thing 16 = .ok (.iconst 4, 1) := by decide +kernel
theorem dX2_thing_17 : decode cX2_thing 17 = .ok (.invokestatic 40, 3) := by decide +kernel
theorem dX2_thing_20 : decode cX2_thing 20 = .ok (.ifCond .eq 14, 3) := by decide +kernel
theorem dX2_thing_23 : decode cX2_thing 23 = .ok (.aload_n 0, 1) := by decide +kernel
theorem dX2_thing_24 : decode cX2_thing 24 = .ok (.getfield 9, 3) := by decide +kernel
theorem dX2_thing_27 : decode cX2_thing 27 = .ok (.iload_n 1, 1) := by decide +kernel
theorem dX2_thing_28 : decode cX2_thing 28 = .ok (.iload_n 2, 1) := by decide +kernel
theorem dX2_thing_29 : decode cX2_thing 29 = .ok (.invokestatic 44, 3) := by decide +kernel
theorem dX2_thing_32 : decode cX2_thing 32 = .ok (.iaload, 1) := by decide +kernel
theorem dX2_thing_33 : decode cX2_thing 33 = .ok (.ireturn, 1) := by decide +kernel
theorem dX2_thing_34 : decode cX2_thing 34 = .ok (.iload_n 2, 1) := by decide +kernel
theorem dX2_thing_35 : decode cX2_thing 35 = .ok (.tableswitch 93 5 7 #[25, 56, 65], 25) := by decide +kernel
theorem dX2_thing_60 : decode cX2_thing 60 = .ok (.aload_n 0, 1) := by decide +kernel
theorem dX2_thing_61 : decode cX2_thing 61 = .ok (.getfield 9, 3) := by decide +kernel
theorem dX2_thing_64 : decode cX2_thing 64 = .ok (.iload_n 1, 1) := by decide +kernel
theorem dX2_thing_65 : decode cX2_thing 65 = .ok (.aload_n 0, 1) := by decide +kernel
theorem dX2_thing_66 : decode cX2_thing 66 = .ok (.getfield 9, 3) := by decide +kernel
theorem dX2_thing_69 : decode cX2_thing 69 = .ok (.iconst 1, 1) := by decide +kernel
theorem dX2_thing_70 : decode cX2_thing 70 = .ok (.invokestatic 73, 3) := by decide +kernel
theorem dX2_thing_73 : decode cX2_thing 73 = .ok (.iconst 1, 1) := by decide +kernel
theorem dX2_thing_74 : decode cX2_thing 74 = .ok (.iload_n 1, 1) := by decide +kernel
theorem dX2_thing_75 : decode cX2_thing 75 = .ok (.ishl, 1) := by decide +kernel
theorem dX2_thing_76 : decode cX2_thing 76 = .ok (.iconst (-1), 1) := by decide +kernel
theorem dX2_thing_77 : decode cX2_thing 77 = .ok (.ixor, 1) := by decide +kernel
theorem dX2_thing_78 : decode cX2_thing 78 = .ok (.iand, 1) := by decide +kernel
theorem dX2_thing_79 : decode cX2_thing 79 = .ok (.ifCond .eq 7, 3) := by decide +kernel
theorem dX2_thing_82 : decode cX2_thing 82 = .ok (.iconst 1, 1) := by decide +kernel
theorem dX2_thing_83 : decode cX2_thing 83 = .ok (.goto 4, 3) := by decide +kernel
theorem dX2_thing_86 : decode cX2_thing 86 = .ok (.iconst 0, 1) := by decide +kernel
theorem dX2_thing_87 : decode cX2_thing 87 = .ok (.invokestatic 76, 3) := by decide +kernel
theorem dX2_thing_90 : decode cX2_thing 90 = .ok (.ireturn, 1) := by decide +kernel
theorem dX2_thing_91 : decode cX2_thing 91 = .ok (.aload_n 0, 1) := by decide +kernel
theorem dX2_thing_92 : decode cX2_thing 92 = .ok (.getfield 9, 3) := by decide +kernel
theorem dX2_thing_95 : decode cX2_thing 95 = .ok (.iload_n 1, 1) := by decide +kernel
theorem dX2_thing_96 : decode cX2_thing 96 = .ok (.invokestatic 59, 3) := by decide +kernel
theorem dX2_thing_99 : decode cX2_thing 99 = .ok (.ireturn, 1) := by decide +kernel
theorem dX2_thing_100 : decode cX2_thing 100 = .ok (.aload_n 0, 1) := by decide +kernel
theorem dX2_thing_101 : decode cX2_thing 101 = .ok (.getfield 9, 3) := by decide +kernel
theorem dX2_thing_104 : decode cX2_thing 104 = .ok (.iload_n 1, 1) := by decide +kernel
theorem dX2_thing_105 : decode cX2_thing 105 = .ok (.invokestatic 55, 3) := by decide +kernel
theorem dX2_thing_108 : decode cX2_thing 108 = .ok (.ifCond .eq 18, 3) := by decide +kernel
theorem dX2_thing_111 : decode cX2_thing 111 = .ok (.aload_n 0, 1) := by decide +kernel
theorem dX2_thing_112 : decode cX2_thing 112 = .ok (.getfield 9, 3) := by decide +kernel
theorem dX2_thing_115 : decode cX2_thing 115 = .ok (.iload_n 1, 1) := by decide +kernel
theorem dX2_thing_116 : decode cX2_thing 116 = .ok (.invokestatic 70, 3) := by decide +kernel
theorem dX2_thing_119 : decode cX2_thing 119 = .ok (.ifCond .eq 7, 3) := by decide +kernel
theorem dX2_thing_122 : decode cX2_thing 122 = .ok (.iconst 1, 1) := by decide +kernel
theorem dX2_thing_123 : decode cX2_thing 123 = .ok (.goto 4, 3) := by decide +kernel
theorem dX2_thing_126 : decode cX2_thing 126 = .ok (.iconst 0, 1) := by decide +kernel
theorem dX2_thing_127 : decode cX2_thing 127 = .ok (.ireturn, 1) := by decide +kernel
theorem dX2_thing_128 : decode cX2_thing 128 = .ok (.aload_n 0, 1) := by decide +kernel
theorem dX2_thing_129 : decode cX2_thing 129 = .ok (.bipush (-2), 2) := by decide +kernel
theorem dX2_thing_131 : decode cX2_thing 131 = .ok (.invokevirtual 36, 3) := by decide +kernel
theorem dX2_thing_134 : decode cX2_thing 134 = .ok (.ireturn, 1) := by decide +kernel
theorem dX2_wrongBy_0 : decode cX2_wrongBy 0 = .ok (.iload_n 0, 1) := by decide +kernel
theorem dX2_wrongBy_1 : decode cX2_wrongBy 1 = .ok (.ifCond .ge 8, 3) := by decide +kernel
theorem dX2_wrongBy_4 : decode cX2_wrongBy 4 = .ok (.bipush (-4), 2) := by decide +kernel
theorem dX2_wrongBy_6 : decode cX2_wrongBy 6 = .ok (.goto 14, 3) := by decide +kernel
theorem dX2_wrongBy_9 : decode cX2_wrongBy 9 = .ok (.iload_n 0, 1) := by decide +kernel
theorem dX2_wrongBy_10 : decode cX2_wrongBy 10 = .ok (.iload_n 1, 1) := by decide +kernel
theorem dX2_wrongBy_11 : decode cX2_wrongBy 11 = .ok (.if_icmp .le 8, 3) := by decide +kernel
theorem dX2_wrongBy_14 : decode cX2_wrongBy 14 = .ok (.bipush (-6), 2) := by decide +kernel
theorem dX2_wrongBy_16 : decode cX2_wrongBy 16 = .ok (.goto 4, 3) := by decide +kernel
theorem dX2_wrongBy_19 : decode cX2_wrongBy 19 = .ok (.iconst 0, 1) := by decide +kernel
theorem dX2_wrongBy_20 : decode cX2_wrongBy 20 = .ok (.ireturn, 1) := by decide +kernel
theorem dX2_wrongPull_0 : decode cX2_wrongPull 0 = .ok (.aload_n 0, 1) := by decide +kernel
theorem dX2_wrongPull_1 : decode cX2_wrongPull 1 = .ok (.iload_n 1, 1) := by decide +kernel
theorem dX2_wrongPull_2 : decode cX2_wrongPull 2 = .ok (.invokevirtual 105, 3) := by decide +kernel
theorem dX2_wrongPull_5 : decode cX2_wrongPull 5 = .ok (.ifCond .eq 12, 3) := by decide +kernel
theorem dX2_wrongPull_8 : decode cX2_wrongPull 8 = .ok (.iload_n 2, 1) := by decide +kernel
theorem dX2_wrongPull_9 : decode cX2_wrongPull 9 = .ok (.bipush 9, 2) := by decide +kernel
theorem dX2_wrongPull_11 : decode cX2_wrongPull 11 = .ok (.invokestatic 128, 3) := by decide +kernel
theorem dX2_wrongPull_14 : decode cX2_wrongPull 14 = .ok (.goto 4, 3) := by decide +kernel
theorem dX2_wrongPull_17 : decode cX2_wrongPull 17 = .ok (.iconst (-1), 1) := by decide +kernel
theorem dX2_wrongPull_18 : decode cX2_wrongPull 18 = .ok (.istore_n 3, 1) := by decide +kernel
theorem dX2_wrongPull_19 : decode cX2_wrongPull 19 = .ok (.iload_n 3, 1) := by decide +kernel
theorem dX2_wrongPull_20 : decode cX2_wrongPull 20 = .ok (.ifCond .ne 19, 3) := by decide +kernel
theorem dX2_wrongPull_23 : decode cX2_wrongPull 23 = .ok (.aload_n 0, 1) := by decide +kernel
theorem dX2_wrongPull_24 : decode cX2_wrongPull 24 = .ok (.getfield 9, 3) := by decide +kernel
theorem dX2_wrongPull_27 : decode cX2_wrongPull 27 = .ok (.iload_n 1, 1) := by decide +kernel
theorem dX2_wrongPull_28 : decode cX2_wrongPull 28 = .ok (.invokestatic 55, 3) := by decide +kernel
theorem dX2_wrongPull_31 : decode cX2_wrongPull 31 = .ok (.ifCond .ne 8, 3) := by decide +kernel
theorem dX2_wrongPull_34 : decode cX2_wrongPull 34 = .ok (.bipush (-3), 2) := by decide +kernel
theorem dX2_wrongPull_36 : decode cX2_wrongPull 36 = .ok (.goto 4, 3) := by decide +kernel
theorem dX2_wrongPull_39 : decode cX2_wrongPull 39 = .ok (.iload_n 3, 1) := by decide +kernel
theorem dX2_wrongPull_40 : decode cX2_wrongPull 40 = .ok (.ireturn, 1) := by decide +kernel
theorem dX2_pulls_0 : decode cX2_pulls 0 = .ok (.aload_n 0, 1) := by decide +kernel
theorem dX2_pulls_1 : decode cX2_pulls 1 = .ok (.iload_n 1, 1) := by decide +kernel
theorem dX2_pulls_2 : decode cX2_pulls 2 = .ok (.iload_n 2, 1) := by decide +kernel
theorem dX2_pulls_3 : decode cX2_pulls 3 = .ok (.invokevirtual 131, 3) := by decide +kernel
theorem dX2_pulls_6 : decode cX2_pulls 6 = .ok (.istore_n 3, 1) := by decide +kernel
theorem dX2_pulls_7 : decode cX2_pulls 7 = .ok (.iload_n 3, 1) := by decide +kernel
theorem dX2_pulls_8 : decode cX2_pulls 8 = .ok (.ifCond .eq 11, 3) := by decide +kernel
theorem dX2_pulls_11 : decode cX2_pulls 11 = .ok (.aload_n 0, 1) := by decide +kernel
theorem dX2_pulls_12 : decode cX2_pulls 12 = .ok (.iload_n 3, 1) := by decide +kernel
theorem dX2_pulls_13 : decode cX2_pulls 13 = .ok (.invokevirtual 36, 3) := by decide +kernel
theorem dX2_pulls_16 : decode cX2_pulls 16 = .ok (.goto 12, 3) := by decide +kernel
theorem dX2_pulls_19 : decode cX2_pulls 19 = .ok (.aload_n 0, 1) := by decide +kernel
theorem dX2_pulls_20 : decode cX2_pulls 20 = .ok (.getfield 9, 3) := by decide +kernel
theorem dX2_pulls_23 : decode cX2_pulls 23 = .ok (.iload_n 1, 1) := by decide +kernel
theorem dX2_pulls_24 : decode cX2_pulls 24 = .ok (.iload_n 2, 1) := by decide +kernel
theorem dX2_pulls_25 : decode cX2_pulls 25 = .ok (.invokestatic 112, 3) := by decide +kernel
theorem dX2_pulls_28 : decode cX2_pulls 28 = .ok (.ireturn, 1) := by decide +kernel
theorem dX2_floor_0 : decode cX2_floor 0 = .ok (.iload_n 1, 1) := by decide +kernel
theorem dX2_floor_1 : decode cX2_floor 1 = .ok (.bipush 9, 2) := by decide +kernel
theorem dX2_floor_3 : decode cX2_floor 3 = .ok (.invokestatic 128, 3) := by decide +kernel
theorem dX2_floor_6 : decode cX2_floor 6 = .ok (.istore_n 2, 1) := by decide +kernel
theorem dX2_floor_7 : decode cX2_floor 7 = .ok (.iload_n 2, 1) := by decide +kernel
theorem dX2_floor_8 : decode cX2_floor 8 = .ok (.ifCond .ne 15, 3) := by decide +kernel
theorem dX2_floor_11 : decode cX2_floor 11 = .ok (.aload_n 0, 1) := by decide +kernel
theorem dX2_floor_12 : decode cX2_floor 12 = .ok (.getfield 9, 3) := by decide +kernel
theorem dX2_floor_15 : decode cX2_floor 15 = .ok (.iconst 2, 1) := by decide +kernel
theorem dX2_floor_16 : decode cX2_floor 16 = .ok (.iaload, 1) := by decide +kernel
theorem dX2_floor_17 : decode cX2_floor 17 = .ok (.ifCond .ne 6, 3) := by decide +kernel
theorem dX2_floor_20 : decode cX2_floor 20 = .ok (.bipush (-3), 2) := by decide +kernel
theorem dX2_floor_22 : decode cX2_floor 22 = .ok (.istore_n 2, 1) := by decide +kernel
theorem dX2_floor_23 : decode cX2_floor 23 = .ok (.iload_n 2, 1) := by decide +kernel
theorem dX2_floor_24 : decode cX2_floor 24 = .ok (.ifCond .eq 11, 3) := by decide +kernel
theorem dX2_floor_27 : decode cX2_floor 27 = .ok (.aload_n 0, 1) := by decide +kernel
theorem dX2_floor_28 : decode cX2_floor 28 = .ok (.iload_n 2, 1) := by decide +kernel
theorem dX2_floor_29 : decode cX2_floor 29 = .ok (.invokevirtual 36, 3) := by decide +kernel
theorem dX2_floor_32 : decode cX2_floor 32 = .ok (.goto 13, 3) := by decide +kernel
theorem dX2_floor_35 : decode cX2_floor 35 = .ok (.aload_n 0, 1) := by decide +kernel
theorem dX2_floor_36 : decode cX2_floor 36 = .ok (.getfield 9, 3) := by decide +kernel
theorem dX2_floor_39 : decode cX2_floor 39 = .ok (.bipush (-9), 2) := by decide +kernel
theorem dX2_floor_41 : decode cX2_floor 41 = .ok (.iload_n 1, 1) := by decide +kernel
theorem dX2_floor_42 : decode cX2_floor 42 = .ok (.invokestatic 112, 3) := by decide +kernel
theorem dX2_floor_45 : decode cX2_floor 45 = .ok (.ireturn, 1) := by decide +kernel
theorem dX2_lays_0 : decode cX2_lays 0 = .ok (.aload_n 0, 1) := by decide +kernel
theorem dX2_lays_1 : decode cX2_lays 1 = .ok (.getfield 9, 3) := by decide +kernel
theorem dX2_lays_4 : decode cX2_lays 4 = .ok (.iconst 2, 1) := by decide +kernel
theorem dX2_lays_5 : decode cX2_lays 5 = .ok (.iaload, 1) := by decide +kernel
theorem dX2_lays_6 : decode cX2_lays 6 = .ok (.iconst 1, 1) := by decide +kernel
theorem dX2_lays_7 : decode cX2_lays 7 = .ok (.if_icmp .ne 10, 3) := by decide +kernel
theorem dX2_lays_10 : decode cX2_lays 10 = .ok (.aload_n 0, 1) := by decide +kernel
theorem dX2_lays_11 : decode cX2_lays 11 = .ok (.bipush (-3), 2) := by decide +kernel
theorem dX2_lays_13 : decode cX2_lays 13 = .ok (.invokevirtual 36, 3) := by decide +kernel
theorem dX2_lays_16 : decode cX2_lays 16 = .ok (.ireturn, 1) := by decide +kernel
theorem dX2_lays_17 : decode cX2_lays 17 = .ok (.aload_n 0, 1) := by decide +kernel
theorem dX2_lays_18 : decode cX2_lays 18 = .ok (.getfield 9, 3) := by decide +kernel
theorem dX2_lays_21 : decode cX2_lays 21 = .ok (.iconst 2, 1) := by decide +kernel
theorem dX2_lays_22 : decode cX2_lays 22 = .ok (.iconst 1, 1) := by decide +kernel
theorem dX2_lays_23 : decode cX2_lays 23 = .ok (.iastore, 1) := by decide +kernel
theorem dX2_lays_24 : decode cX2_lays 24 = .ok (.iconst 0, 1) := by decide +kernel
theorem dX2_lays_25 : decode cX2_lays 25 = .ok (.istore_n 1, 1) := by decide +kernel
theorem dX2_lays_26 : decode cX2_lays 26 = .ok (.iconst 0, 1) := by decide +kernel
theorem dX2_lays_27 : decode cX2_lays 27 = .ok (.istore_n 2, 1) := by decide +kernel
theorem dX2_lays_28 : decode cX2_lays 28 = .ok (.iload_n 2, 1) := by decide +kernel
theorem dX2_lays_29 : decode cX2_lays 29 = .ok (.aload_n 0, 1) := by decide +kernel
theorem dX2_lays_30 : decode cX2_lays 30 = .ok (.getfield 9, 3) := by decide +kernel
theorem dX2_lays_33 : decode cX2_lays 33 = .ok (.iconst 0, 1) := by decide +kernel
theorem dX2_lays_34 : decode cX2_lays 34 = .ok (.iaload, 1) := by decide +kernel
theorem dX2_lays_35 : decode cX2_lays 35 = .ok (.if_icmp .ge 41, 3) := by decide +kernel
theorem dX2_lays_38 : decode cX2_lays 38 = .ok (.iload_n 1, 1) := by decide +kernel
theorem dX2_lays_39 : decode cX2_lays 39 = .ok (.aload_n 0, 1) := by decide +kernel
theorem dX2_lays_40 : decode cX2_lays 40 = .ok (.getfield 9, 3) := by decide +kernel
theorem dX2_lays_43 : decode cX2_lays 43 = .ok (.iload_n 2, 1) := by decide +kernel
theorem dX2_lays_44 : decode cX2_lays 44 = .ok (.invokestatic 55, 3) := by decide +kernel
theorem dX2_lays_47 : decode cX2_lays 47 = .ok (.ifCond .eq 20, 3) := by decide +kernel
theorem dX2_lays_50 : decode cX2_lays 50 = .ok (.aload_n 0, 1) := by decide +kernel
theorem dX2_lays_51 : decode cX2_lays 51 = .ok (.getfield 9, 3) := by decide +kernel
theorem dX2_lays_54 : decode cX2_lays 54 = .ok (.iload_n 2, 1) := by decide +kernel
theorem dX2_lays_55 : decode cX2_lays 55 = .ok (.iconst 2, 1) := by decide +kernel
theorem dX2_lays_56 : decode cX2_lays 56 = .ok (.invokestatic 44, 3) := by decide +kernel
theorem dX2_lays_59 : decode cX2_lays 59 = .ok (.iaload, 1) := by decide +kernel
theorem dX2_lays_60 : decode cX2_lays 60 = .ok (.ifCond .ge 7, 3) := by decide +kernel
theorem dX2_lays_63 : decode cX2_lays 63 = .ok (.iconst 1, 1) := by decide +kernel
theorem dX2_lays_64 : decode cX2_lays 64 = .ok (.goto 4, 3) := by decide +kernel
theorem dX2_lays_67 : decode cX2_lays 67 = .ok (.iconst 0, 1) := by decide +kernel
theorem dX2_lays_68 : decode cX2_lays 68 = .ok (.iadd, 1) := by decide +kernel
theorem dX2_lays_69 : decode cX2_lays 69 = .ok (.istore_n 1, 1) := by decide +kernel
theorem dX2_lays_70 : decode cX2_lays 70 = .ok (.iinc 2 1, 3) := by decide +kernel
theorem dX2_lays_73 : decode cX2_lays 73 = .ok (.goto (-45), 3) := by decide +kernel
theorem dX2_lays_76 : decode cX2_lays 76 = .ok (.iload_n 1, 1) := by decide +kernel
theorem dX2_lays_77 : decode cX2_lays 77 = .ok (.ireturn, 1) := by decide +kernel
theorem dX2_setsUp_0 : decode cX2_setsUp 0 = .ok (.aload_n 0, 1) := by decide +kernel
theorem dX2_setsUp_1 : decode cX2_setsUp 1 = .ok (.iload_n 1, 1) := by decide +kernel
theorem dX2_setsUp_2 : decode cX2_setsUp 2 = .ok (.invokevirtual 105, 3) := by decide +kernel
theorem dX2_setsUp_5 : decode cX2_setsUp 5 = .ok (.ifCond .ne 9, 3) := by decide +kernel
theorem dX2_setsUp_8 : decode cX2_setsUp 8 = .ok (.aload_n 0, 1) := by decide +kernel
theorem dX2_setsUp_9 : decode cX2_setsUp 9 = .ok (.iconst (-1), 1) := by decide +kernel
theorem dX2_setsUp_10 : decode cX2_setsUp 10 = .ok (.invokevirtual 36, 3) := by decide +kernel
theorem dX2_setsUp_13 : decode cX2_setsUp 13 = .ok (.ireturn, 1) := by decide +kernel
theorem dX2_setsUp_14 : decode cX2_setsUp 14 = .ok (.aload_n 0, 1) := by decide +kernel
theorem dX2_setsUp_15 : decode cX2_setsUp 15 = .ok (.getfield 9, 3) := by decide +kernel
theorem dX2_setsUp_18 : decode cX2_setsUp 18 = .ok (.iload_n 1, 1) := by decide +kernel
theorem dX2_setsUp_19 : decode cX2_setsUp 19 = .ok (.iconst 3, 1) := by decide +kernel
theorem dX2_setsUp_20 : decode cX2_setsUp 20 = .ok (.invokestatic 44, 3) := by decide +kernel
theorem dX2_setsUp_23 : decode cX2_setsUp 23 = .ok (.iaload, 1) := by decide +kernel
theorem dX2_setsUp_24 : decode cX2_setsUp 24 = .ok (.iconst 1, 1) := by decide +kernel
theorem dX2_setsUp_25 : decode cX2_setsUp 25 = .ok (.if_icmp .eq 10, 3) := by decide +kernel
theorem dX2_setsUp_28 : decode cX2_setsUp 28 = .ok (.aload_n 0, 1) := by decide +kernel
theorem dX2_setsUp_29 : decode cX2_setsUp 29 = .ok (.bipush (-3), 2) := by decide +kernel
theorem dX2_setsUp_31 : decode cX2_setsUp 31 = .ok (.invokevirtual 36, 3) := by decide +kernel
theorem dX2_setsUp_34 : decode cX2_setsUp 34 = .ok (.ireturn, 1) := by decide +kernel
theorem dX2_setsUp_35 : decode cX2_setsUp 35 = .ok (.aload_n 0, 1) := by decide +kernel
theorem dX2_setsUp_36 : decode cX2_setsUp 36 = .ok (.getfield 9, 3) := by decide +kernel
theorem dX2_setsUp_39 : decode cX2_setsUp 39 = .ok (.iload_n 1, 1) := by decide +kernel
theorem dX2_setsUp_40 : decode cX2_setsUp 40 = .ok (.iconst 3, 1) := by decide +kernel
theorem dX2_setsUp_41 : decode cX2_setsUp 41 = .ok (.invokestatic 44, 3) := by decide +kernel
theorem dX2_setsUp_44 : decode cX2_setsUp 44 = .ok (.iconst 0, 1) := by decide +kernel
theorem dX2_setsUp_45 : decode cX2_setsUp 45 = .ok (.iastore, 1) := by decide +kernel
theorem dX2_setsUp_46 : decode cX2_setsUp 46 = .ok (.aload_n 0, 1) := by decide +kernel
theorem dX2_setsUp_47 : decode cX2_setsUp 47 = .ok (.getfield 9, 3) := by decide +kernel
theorem dX2_setsUp_50 : decode cX2_setsUp 50 = .ok (.iload_n 1, 1) := by decide +kernel
theorem dX2_setsUp_51 : decode cX2_setsUp 51 = .ok (.iconst 4, 1) := by decide +kernel
theorem dX2_setsUp_52 : decode cX2_setsUp 52 = .ok (.invokestatic 44, 3) := by decide +kernel
theorem dX2_setsUp_55 : decode cX2_setsUp 55 = .ok (.iconst 0, 1) := by decide +kernel
theorem dX2_setsUp_56 : decode cX2_setsUp 56 = .ok (.iastore, 1) := by decide +kernel
theorem dX2_setsUp_57 : decode cX2_setsUp 57 = .ok (.aload_n 0, 1) := by decide +kernel
theorem dX2_setsUp_58 : decode cX2_setsUp 58 = .ok (.getfield 9, 3) := by decide +kernel
theorem dX2_setsUp_61 : decode cX2_setsUp 61 = .ok (.iload_n 1, 1) := by decide +kernel
theorem dX2_setsUp_62 : decode cX2_setsUp 62 = .ok (.invokestatic 70, 3) := by decide +kernel
theorem dX2_setsUp_65 : decode cX2_setsUp 65 = .ok (.ifCond .eq 7, 3) := by decide +kernel
theorem dX2_setsUp_68 : decode cX2_setsUp 68 = .ok (.iconst 1, 1) := by decide +kernel
theorem dX2_setsUp_69 : decode cX2_setsUp 69 = .ok (.goto 4, 3) := by decide +kernel
theorem dX2_setsUp_72 : decode cX2_setsUp 72 = .ok (.iconst 0, 1) := by decide +kernel
theorem dX2_setsUp_73 : decode cX2_setsUp 73 = .ok (.ireturn, 1) := by decide +kernel
theorem dX2_turn_0 : decode cX2_turn 0 = .ok (.aload_n 0, 1) := by decide +kernel
theorem dX2_turn_1 : decode cX2_turn 1 = .ok (.iload_n 1, 1) := by decide +kernel
theorem dX2_turn_2 : decode cX2_turn 2 = .ok (.invokevirtual 105, 3) := by decide +kernel
theorem dX2_turn_5 : decode cX2_turn 5 = .ok (.ifCond .ne 7, 3) := by decide +kernel
theorem dX2_turn_8 : decode cX2_turn 8 = .ok (.iconst (-1), 1) := by decide +kernel
theorem dX2_turn_9 : decode cX2_turn 9 = .ok (.goto 23, 3) := by decide +kernel
theorem dX2_turn_12 : decode cX2_turn 12 = .ok (.iload_n 2, 1) := by decide +kernel
theorem dX2_turn_13 : decode cX2_turn 13 = .ok (.iconst 0, 1) := by decide +kernel
theorem dX2_turn_14 : decode cX2_turn 14 = .ok (.iconst 5, 1) := by decide +kernel
theorem dX2_turn_15 : decode cX2_turn 15 = .ok (.invokestatic 40, 3) := by decide +kernel
theorem dX2_turn_18 : decode cX2_turn 18 = .ok (.ifCond .ne 8, 3) := by decide +kernel
theorem dX2_turn_21 : decode cX2_turn 21 = .ok (.bipush (-2), 2) := by decide +kernel
theorem dX2_turn_23 : decode cX2_turn 23 = .ok (.goto 9, 3) := by decide +kernel
theorem dX2_turn_26 : decode cX2_turn 26 = .ok (.iload_n 3, 1) := by decide +kernel
theorem dX2_turn_27 : decode cX2_turn 27 = .ok (.bipush 9, 2) := by decide +kernel
theorem dX2_turn_29 : decode cX2_turn 29 = .ok (.invokestatic 128, 3) := by decide +kernel
theorem dX2_turn_32 : decode cX2_turn 32 = .ok (.istore 4, 2) := by decide +kernel
theorem dX2_turn_34 : decode cX2_turn 34 = .ok (.iload 4, 2) := by decide +kernel
theorem dX2_turn_36 : decode cX2_turn 36 = .ok (.ifCond .eq 10, 3) := by decide +kernel
theorem dX2_turn_39 : decode cX2_turn 39 = .ok (.aload_n 0, 1) := by decide +kernel
theorem dX2_turn_40 : decode cX2_turn 40 = .ok (.iload 4, 2) := by decide +kernel
theorem dX2_turn_42 : decode cX2_turn 42 = .ok (.invokevirtual 36, 3) := by decide +kernel
theorem dX2_turn_45 : decode cX2_turn 45 = .ok (.ireturn, 1) := by decide +kernel
theorem dX2_turn_46 : decode cX2_turn 46 = .ok (.bipush 10, 2) := by decide +kernel
theorem dX2_turn_48 : decode cX2_turn 48 = .ok (.aload_n 0, 1) := by decide +kernel
theorem dX2_turn_49 : decode cX2_turn 49 = .ok (.getfield 9, 3) := by decide +kernel
theorem dX2_turn_52 : decode cX2_turn 52 = .ok (.iload_n 1, 1) := by decide +kernel
theorem dX2_turn_53 : decode cX2_turn 53 = .ok (.iconst 0, 1) := by decide +kernel
theorem dX2_turn_54 : decode cX2_turn 54 = .ok (.invokestatic 44, 3) := by decide +kernel
theorem dX2_turn_57 : decode cX2_turn 57 = .ok (.iaload, 1) := by decide +kernel
theorem dX2_turn_58 : decode cX2_turn 58 = .ok (.imul, 1) := by decide +kernel
theorem dX2_turn_59 : decode cX2_turn 59 = .ok (.aload_n 0, 1) := by decide +kernel
theorem dX2_turn_60 : decode cX2_turn 60 = .ok (.getfield 9, 3) := by decide +kernel
theorem dX2_turn_63 : decode cX2_turn 63 = .ok (.iload_n 1, 1) := by decide +kernel
theorem dX2_turn_64 : decode cX2_turn 64 = .ok (.iconst 1, 1) := by decide +kernel
theorem dX2_turn_65 : decode cX2_turn 65 = .ok (.invokestatic 44, 3) := by decide +kernel
theorem dX2_turn_68 : decode cX2_turn 68 = .ok (.iaload, 1) := by decide +kernel
theorem dX2_turn_69 : decode cX2_turn 69 = .ok (.iadd, 1) := by decide +kernel
theorem dX2_turn_70 : decode cX2_turn 70 = .ok (.istore 5, 2) := by decide +kernel
theorem dX2_turn_72 : decode cX2_turn 72 = .ok (.aload_n 0, 1) := by decide +kernel
theorem dX2_turn_73 : decode cX2_turn 73 = .ok (.getfield 9, 3) := by decide +kernel
theorem dX2_turn_76 : decode cX2_turn 76 = .ok (.iload_n 1, 1) := by decide +kernel
theorem dX2_turn_77 : decode cX2_turn 77 = .ok (.iconst 0, 1) := by decide +kernel
theorem dX2_turn_78 : decode cX2_turn 78 = .ok (.invokestatic 44, 3) := by decide +kernel
theorem dX2_turn_81 : decode cX2_turn 81 = .ok (.iload_n 2, 1) := by decide +kernel
theorem dX2_turn_82 : decode cX2_turn 82 = .ok (.iastore, 1) := by decide +kernel
theorem dX2_turn_83 : decode cX2_turn 83 = .ok (.aload_n 0, 1) := by decide +kernel
theorem dX2_turn_84 : decode cX2_turn 84 = .ok (.getfield 9, 3) := by decide +kernel
theorem dX2_turn_87 : decode cX2_turn 87 = .ok (.iload_n 1, 1) := by decide +kernel
theorem dX2_turn_88 : decode cX2_turn 88 = .ok (.iconst 1, 1) := by decide +kernel
theorem dX2_turn_89 : decode cX2_turn 89 = .ok (.invokestatic 44, 3) := by decide +kernel
theorem dX2_turn_92 : decode cX2_turn 92 = .ok (.iload_n 3, 1) := by decide +kernel
theorem dX2_turn_93 : decode cX2_turn 93 = .ok (.iastore, 1) := by decide +kernel
theorem dX2_turn_94 : decode cX2_turn 94 = .ok (.iload 5, 2) := by decide +kernel
theorem dX2_turn_96 : decode cX2_turn 96 = .ok (.ireturn, 1) := by decide +kernel
theorem dX2_minutes_0 : decode cX2_minutes 0 = .ok (.iload_n 1, 1) := by decide +kernel
theorem dX2_minutes_1 : decode cX2_minutes 1 = .ok (.iconst 1, 1) := by decide +kernel
theorem dX2_minutes_2 : decode cX2_minutes 2 = .ok (.if_icmp .ge 10, 3) := by decide +kernel
theorem dX2_minutes_5 : decode cX2_minutes 5 = .ok (.aload_n 0, 1) := by decide +kernel
theorem dX2_minutes_6 : decode cX2_minutes 6 = .ok (.bipush (-4), 2) := by decide +kernel
theorem dX2_minutes_8 : decode cX2_minutes 8 = .ok (.invokevirtual 36, 3) := by decide +kernel
theorem dX2_minutes_11 : decode cX2_minutes 11 = .ok (.ireturn, 1) := by decide +kernel
theorem dX2_minutes_12 : decode cX2_minutes 12 = .ok (.iload_n 1, 1) := by decide +kernel
theorem dX2_minutes_13 : decode cX2_minutes 13 = .ok (.bipush 60, 2) := by decide +kernel
theorem dX2_minutes_15 : decode cX2_minutes 15 = .ok (.if_icmp .gt 17, 3) := by decide +kernel
theorem dX2_minutes_18 : decode cX2_minutes 18 = .ok (.aload_n 0, 1) := by decide +kernel
theorem dX2_minutes_19 : decode cX2_minutes 19 = .ok (.getfield 9, 3) := by decide +kernel
theorem dX2_minutes_22 : decode cX2_minutes 22 = .ok (.iconst 1, 1) := by decide +kernel
theorem dX2_minutes_23 : decode cX2_minutes 23 = .ok (.iaload, 1) := by decide +kernel
theorem dX2_minutes_24 : decode cX2_minutes 24 = .ok (.iload_n 1, 1) := by decide +kernel
theorem dX2_minutes_25 : decode cX2_minutes 25 = .ok (.iadd, 1) := by decide +kernel
theorem dX2_minutes_26 : decode cX2_minutes 26 = .ok (.sipush 999, 3) := by decide +kernel
theorem dX2_minutes_29 : decode cX2_minutes 29 = .ok (.if_icmp .le 10, 3) := by decide +kernel
theorem dX2_minutes_32 : decode cX2_minutes 32 = .ok (.aload_n 0, 1) := by decide +kernel
theorem dX2_minutes_33 : decode cX2_minutes 33 = .ok (.bipush (-6), 2) := by decide +kernel
theorem dX2_minutes_35 : decode cX2_minutes 35 = .ok (.invokevirtual 36, 3) := by decide +kernel
theorem dX2_minutes_38 : decode cX2_minutes 38 = .ok (.ireturn, 1) := by decide +kernel
theorem dX2_minutes_39 : decode cX2_minutes 39 = .ok (.aload_n 0, 1) := by decide +kernel
theorem dX2_minutes_40 : decode cX2_minutes 40 = .ok (.getfield 9, 3) := by decide +kernel
theorem dX2_minutes_43 : decode cX2_minutes 43 = .ok (.iload_n 1, 1) := by decide +kernel
theorem dX2_minutes_44 : decode cX2_minutes 44 = .ok (.invokestatic 115, 3) := by decide +kernel
theorem dX2_minutes_47 : decode cX2_minutes 47 = .ok (.aload_n 0, 1) := by decide +kernel
theorem dX2_minutes_48 : decode cX2_minutes 48 = .ok (.getfield 9, 3) := by decide +kernel
theorem dX2_minutes_51 : decode cX2_minutes 51 = .ok (.iconst 0, 1) := by decide +kernel
theorem dX2_minutes_52 : decode cX2_minutes 52 = .ok (.invokestatic 73, 3) := by decide +kernel
theorem dX2_minutes_55 : decode cX2_minutes 55 = .ok (.invokestatic 67, 3) := by decide +kernel
theorem dX2_minutes_58 : decode cX2_minutes 58 = .ok (.ireturn, 1) := by decide +kernel
theorem dX2_takes_0 : decode cX2_takes 0 = .ok (.aload_n 0, 1) := by decide +kernel
theorem dX2_takes_1 : decode cX2_takes 1 = .ok (.getfield 9, 3) := by decide +kernel
theorem dX2_takes_4 : decode cX2_takes 4 = .ok (.aload_n 0, 1) := by decide +kernel
theorem dX2_takes_5 : decode cX2_takes 5 = .ok (.getfield 13, 3) := by decide +kernel
theorem dX2_takes_8 : decode cX2_takes 8 = .ok (.invokestatic 121, 3) := by decide +kernel
theorem dX2_takes_11 : decode cX2_takes 11 = .ok (.aload_n 0, 1) := by decide +kernel
theorem dX2_takes_12 : decode cX2_takes 12 = .ok (.getfield 13, 3) := by decide +kernel
theorem dX2_takes_15 : decode cX2_takes 15 = .ok (.iload_n 1, 1) := by decide +kernel
theorem dX2_takes_16 : decode cX2_takes 16 = .ok (.invokestatic 115, 3) := by decide +kernel
theorem dX2_takes_19 : decode cX2_takes 19 = .ok (.return_, 1) := by decide +kernel
theorem dX2_standingIn_0 : decode cX2_standingIn 0 = .ok (.aload_n 0, 1) := by decide +kernel
theorem dX2_standingIn_1 : decode cX2_standingIn 1 = .ok (.getfield 13, 3) := by decide +kernel
theorem dX2_standingIn_4 : decode cX2_standingIn 4 = .ok (.iconst 0, 1) := by decide +kernel
theorem dX2_standingIn_5 : decode cX2_standingIn 5 = .ok (.invokestatic 73, 3) := by decide +kernel
theorem dX2_standingIn_8 : decode cX2_standingIn 8 = .ok (.invokestatic 67, 3) := by decide +kernel
theorem dX2_standingIn_11 : decode cX2_standingIn 11 = .ok (.ireturn, 1) := by decide +kernel
theorem dX2_behind_0 : decode cX2_behind 0 = .ok (.aload_n 0, 1) := by decide +kernel
theorem dX2_behind_1 : decode cX2_behind 1 = .ok (.iload_n 1, 1) := by decide +kernel
theorem dX2_behind_2 : decode cX2_behind 2 = .ok (.invokevirtual 105, 3) := by decide +kernel
theorem dX2_behind_5 : decode cX2_behind 5 = .ok (.ifCond .eq 12, 3) := by decide +kernel
theorem dX2_behind_8 : decode cX2_behind 8 = .ok (.iload_n 2, 1) := by decide +kernel
theorem dX2_behind_9 : decode cX2_behind 9 = .ok (.bipush 99, 2) := by decide +kernel
theorem dX2_behind_11 : decode cX2_behind 11 = .ok (.invokestatic 128, 3) := by decide +kernel
theorem dX2_behind_14 : decode cX2_behind 14 = .ok (.goto 4, 3) := by decide +kernel
theorem dX2_behind_17 : decode cX2_behind 17 = .ok (.iconst (-1), 1) := by decide +kernel
theorem dX2_behind_18 : decode cX2_behind 18 = .ok (.istore 4, 2) := by decide +kernel
theorem dX2_behind_20 : decode cX2_behind 20 = .ok (.iload 4, 2) := by decide +kernel
theorem dX2_behind_22 : decode cX2_behind 22 = .ok (.ifCond .ne 16, 3) := by decide +kernel
theorem dX2_behind_25 : decode cX2_behind 25 = .ok (.iload_n 3, 1) := by decide +kernel
theorem dX2_behind_26 : decode cX2_behind 26 = .ok (.iconst 0, 1) := by decide +kernel
theorem dX2_behind_27 : decode cX2_behind 27 = .ok (.iconst 2, 1) := by decide +kernel
theorem dX2_behind_28 : decode cX2_behind 28 = .ok (.invokestatic 40, 3) := by decide +kernel
theorem dX2_behind_31 : decode cX2_behind 31 = .ok (.ifCond .ne 7, 3) := by decide +kernel
theorem dX2_behind_34 : decode cX2_behind 34 = .ok (.bipush (-2), 2) := by decide +kernel
theorem dX2_behind_36 : decode cX2_behind 36 = .ok (.istore 4, 2) := by decide +kernel
theorem dX2_behind_38 : decode cX2_behind 38 = .ok (.iload 4, 2) := by decide +kernel
theorem dX2_behind_40 : decode cX2_behind 40 = .ok (.ifCond .eq 10, 3) := by decide +kernel
theorem dX2_behind_43 : decode cX2_behind 43 = .ok (.aload_n 0, 1) := by decide +kernel
theorem dX2_behind_44 : decode cX2_behind 44 = .ok (.iload 4, 2) := by decide +kernel
theorem dX2_behind_46 : decode cX2_behind 46 = .ok (.invokevirtual 36, 3) := by decide +kernel
theorem dX2_behind_49 : decode cX2_behind 49 = .ok (.ireturn, 1) := by decide +kernel
theorem dX2_behind_50 : decode cX2_behind 50 = .ok (.aload_n 0, 1) := by decide +kernel
theorem dX2_behind_51 : decode cX2_behind 51 = .ok (.iload_n 2, 1) := by decide +kernel
theorem dX2_behind_52 : decode cX2_behind 52 = .ok (.invokevirtual 134, 3) := by decide +kernel
theorem dX2_behind_55 : decode cX2_behind 55 = .ok (.iload_n 3, 1) := by decide +kernel
theorem dX2_behind_56 : decode cX2_behind 56 = .ok (.ifCond .ne 16, 3) := by decide +kernel
theorem dX2_behind_59 : decode cX2_behind 59 = .ok (.aload_n 0, 1) := by decide +kernel
theorem dX2_behind_60 : decode cX2_behind 60 = .ok (.getfield 13, 3) := by decide +kernel
theorem dX2_behind_63 : decode cX2_behind 63 = .ok (.iload_n 1, 1) := by decide +kernel
theorem dX2_behind_64 : decode cX2_behind 64 = .ok (.iconst 3, 1) := by decide +kernel
theorem dX2_behind_65 : decode cX2_behind 65 = .ok (.invokestatic 44, 3) := by decide +kernel
theorem dX2_behind_68 : decode cX2_behind 68 = .ok (.iaload, 1) := by decide +kernel
theorem dX2_behind_69 : decode cX2_behind 69 = .ok (.goto 25, 3) := by decide +kernel
theorem dX2_behind_72 : decode cX2_behind 72 = .ok (.iload_n 3, 1) := by decide +kernel
theorem dX2_behind_73 : decode cX2_behind 73 = .ok (.iconst 1, 1) := by decide +kernel
theorem dX2_behind_74 : decode cX2_behind 74 = .ok (.if_icmp .ne 16, 3) := by decide +kernel
theorem dX2_behind_77 : decode cX2_behind 77 = .ok (.aload_n 0, 1) := by decide +kernel
theorem dX2_behind_78 : decode cX2_behind 78 = .ok (.getfield 13, 3) := by decide +kernel
theorem dX2_behind_81 : decode cX2_behind 81 = .ok (.iload_n 1, 1) := by decide +kernel
theorem dX2_behind_82 : decode cX2_behind 82 = .ok (.iconst 4, 1) := by decide +kernel
theorem dX2_behind_83 : decode cX2_behind 83 = .ok (.invokestatic 44, 3) := by decide +kernel
theorem dX2_behind_86 : decode cX2_behind 86 = .ok (.iaload, 1) := by decide +kernel
theorem dX2_behind_87 : decode cX2_behind 87 = .ok (.goto 7, 3) := by decide +kernel
theorem dX2_behind_90 : decode cX2_behind 90 = .ok (.aload_n 0, 1) := by decide +kernel
theorem dX2_behind_91 : decode cX2_behind 91 = .ok (.invokevirtual 138, 3) := by decide +kernel
theorem dX2_behind_94 : decode cX2_behind 94 = .ok (.ireturn, 1) := by decide +kernel
theorem dX2_fallsIn_0 : decode cX2_fallsIn 0 = .ok (.iconst 0, 1) := by decide +kernel
theorem dX2_fallsIn_1 : decode cX2_fallsIn 1 = .ok (.istore_n 2, 1) := by decide +kernel
theorem dX2_fallsIn_2 : decode cX2_fallsIn 2 = .ok (.iload_n 2, 1) := by decide +kernel
theorem dX2_fallsIn_3 : decode cX2_fallsIn 3 = .ok (.bipush 99, 2) := by decide +kernel
theorem dX2_fallsIn_5 : decode cX2_fallsIn 5 = .ok (.if_icmp .gt 33, 3) := by decide +kernel
theorem dX2_fallsIn_8 : decode cX2_fallsIn 8 = .ok (.aload_n 0, 1) := by decide +kernel
theorem dX2_fallsIn_9 : decode cX2_fallsIn 9 = .ok (.getfield 13, 3) := by decide +kernel
theorem dX2_fallsIn_12 : decode cX2_fallsIn 12 = .ok (.iload_n 1, 1) := by decide +kernel
theorem dX2_fallsIn_13 : decode cX2_fallsIn 13 = .ok (.iconst 3, 1) := by decide +kernel
theorem dX2_fallsIn_14 : decode cX2_fallsIn 14 = .ok (.invokestatic 44, 3) := by decide +kernel
theorem dX2_fallsIn_17 : decode cX2_fallsIn 17 = .ok (.iaload, 1) := by decide +kernel
theorem dX2_fallsIn_18 : decode cX2_fallsIn 18 = .ok (.iconst 1, 1) := by decide +kernel
theorem dX2_fallsIn_19 : decode cX2_fallsIn 19 = .ok (.if_icmp .ne 5, 3) := by decide +kernel
theorem dX2_fallsIn_22 : decode cX2_fallsIn 22 = .ok (.iload_n 2, 1) := by decide +kernel
theorem dX2_fallsIn_23 : decode cX2_fallsIn 23 = .ok (.ireturn, 1) := by decide +kernel
theorem dX2_fallsIn_24 : decode cX2_fallsIn 24 = .ok (.aload_n 0, 1) := by decide +kernel
theorem dX2_fallsIn_25 : decode cX2_fallsIn 25 = .ok (.getfield 13, 3) := by decide +kernel
theorem dX2_fallsIn_28 : decode cX2_fallsIn 28 = .ok (.iconst 0, 1) := by decide +kernel
theorem dX2_fallsIn_29 : decode cX2_fallsIn 29 = .ok (.invokestatic 80, 3) := by decide +kernel
theorem dX2_fallsIn_32 : decode cX2_fallsIn 32 = .ok (.iinc 2 1, 3) := by decide +kernel
theorem dX2_fallsIn_35 : decode cX2_fallsIn 35 = .ok (.goto (-33), 3) := by decide +kernel
theorem dX2_fallsIn_38 : decode cX2_fallsIn 38 = .ok (.bipush (-9), 2) := by decide +kernel
theorem dX2_fallsIn_40 : decode cX2_fallsIn 40 = .ok (.ireturn, 1) := by decide +kernel
theorem dX2_fallsOf_0 : decode cX2_fallsOf 0 = .ok (.aload_n 0, 1) := by decide +kernel
theorem dX2_fallsOf_1 : decode cX2_fallsOf 1 = .ok (.getfield 9, 3) := by decide +kernel
theorem dX2_fallsOf_4 : decode cX2_fallsOf 4 = .ok (.aload_n 0, 1) := by decide +kernel
theorem dX2_fallsOf_5 : decode cX2_fallsOf 5 = .ok (.getfield 13, 3) := by decide +kernel
theorem dX2_fallsOf_8 : decode cX2_fallsOf 8 = .ok (.invokestatic 121, 3) := by decide +kernel
theorem dX2_fallsOf_11 : decode cX2_fallsOf 11 = .ok (.aload_n 0, 1) := by decide +kernel
theorem dX2_fallsOf_12 : decode cX2_fallsOf 12 = .ok (.iload_n 1, 1) := by decide +kernel
theorem dX2_fallsOf_13 : decode cX2_fallsOf 13 = .ok (.invokevirtual 141, 3) := by decide +kernel
theorem dX2_fallsOf_16 : decode cX2_fallsOf 16 = .ok (.ireturn, 1) := by decide +kernel
theorem dX2_falls_0 : decode cX2_falls 0 = .ok (.aload_n 0, 1) := by decide +kernel
theorem dX2_falls_1 : decode cX2_falls 1 = .ok (.iload_n 1, 1) := by decide +kernel
theorem dX2_falls_2 : decode cX2_falls 2 = .ok (.invokevirtual 105, 3) := by decide +kernel
theorem dX2_falls_5 : decode cX2_falls 5 = .ok (.ifCond .eq 11, 3) := by decide +kernel
theorem dX2_falls_8 : decode cX2_falls 8 = .ok (.aload_n 0, 1) := by decide +kernel
theorem dX2_falls_9 : decode cX2_falls 9 = .ok (.iload_n 1, 1) := by decide +kernel
theorem dX2_falls_10 : decode cX2_falls 10 = .ok (.invokevirtual 144, 3) := by decide +kernel
theorem dX2_falls_13 : decode cX2_falls 13 = .ok (.goto 8, 3) := by decide +kernel
theorem dX2_falls_16 : decode cX2_falls 16 = .ok (.aload_n 0, 1) := by decide +kernel
theorem dX2_falls_17 : decode cX2_falls 17 = .ok (.iconst (-1), 1) := by decide +kernel
theorem dX2_falls_18 : decode cX2_falls 18 = .ok (.invokevirtual 36, 3) := by decide +kernel
theorem dX2_falls_21 : decode cX2_falls 21 = .ok (.ireturn, 1) := by decide +kernel
theorem dX2_first_0 : decode cX2_first 0 = .ok (.iload_n 1, 1) := by decide +kernel
theorem dX2_first_1 : decode cX2_first 1 = .ok (.iconst 0, 1) := by decide +kernel
theorem dX2_first_2 : decode cX2_first 2 = .ok (.iconst 1, 1) := by decide +kernel
theorem dX2_first_3 : decode cX2_first 3 = .ok (.invokestatic 40, 3) := by decide +kernel
theorem dX2_first_6 : decode cX2_first 6 = .ok (.ifCond .ne 10, 3) := by decide +kernel
theorem dX2_first_9 : decode cX2_first 9 = .ok (.aload_n 0, 1) := by decide +kernel
theorem dX2_first_10 : decode cX2_first 10 = .ok (.bipush (-2), 2) := by decide +kernel
theorem dX2_first_12 : decode cX2_first 12 = .ok (.invokevirtual 36, 3) := by decide +kernel
theorem dX2_first_15 : decode cX2_first 15 = .ok (.ireturn, 1) := by decide +kernel
theorem dX2_first_16 : decode cX2_first 16 = .ok (.bipush (-9), 2) := by decide +kernel
theorem dX2_first_18 : decode cX2_first 18 = .ok (.istore_n 2, 1) := by decide +kernel
theorem dX2_first_19 : decode cX2_first 19 = .ok (.ldc 147, 2) := by decide +kernel
theorem dX2_first_21 : decode cX2_first 21 = .ok (.istore_n 3, 1) := by decide +kernel
theorem dX2_first_22 : decode cX2_first 22 = .ok (.iconst 0, 1) := by decide +kernel
theorem dX2_first_23 : decode cX2_first 23 = .ok (.istore 4, 2) := by decide +kernel
theorem dX2_first_25 : decode cX2_first 25 = .ok (.iload 4, 2) := by decide +kernel
theorem dX2_first_27 : decode cX2_first 27 = .ok (.aload_n 0, 1) := by decide +kernel
theorem dX2_first_28 : decode cX2_first 28 = .ok (.getfield 9, 3) := by decide +kernel
theorem dX2_first_31 : decode cX2_first 31 = .ok (.iconst 0, 1) := by decide +kernel
theorem dX2_first_32 : decode cX2_first 32 = .ok (.iaload, 1) := by decide +kernel
theorem dX2_first_33 : decode cX2_first 33 = .ok (.if_icmp .ge 54, 3) := by decide +kernel
theorem dX2_first_36 : decode cX2_first 36 = .ok (.aload_n 0, 1) := by decide +kernel
theorem dX2_first_37 : decode cX2_first 37 = .ok (.getfield 9, 3) := by decide +kernel
theorem dX2_first_40 : decode cX2_first 40 = .ok (.iload 4, 2) := by decide +kernel
theorem dX2_first_42 : decode cX2_first 42 = .ok (.invokestatic 55, 3) := by decide +kernel
theorem dX2_first_45 : decode cX2_first 45 = .ok (.ifCond .eq 12, 3) := by decide +kernel
theorem dX2_first_48 : decode cX2_first 48 = .ok (.aload_n 0, 1) := by decide +kernel
theorem dX2_first_49 : decode cX2_first 49 = .ok (.iload 4, 2) := by decide +kernel
theorem dX2_first_51 : decode cX2_first 51 = .ok (.invokevirtual 144, 3) := by decide +kernel
theorem dX2_first_54 : decode cX2_first 54 = .ok (.goto 5, 3) := by decide +kernel
theorem dX2_first_57 : decode cX2_first 57 = .ok (.bipush (-9), 2) := by decide +kernel
theorem dX2_first_59 : decode cX2_first 59 = .ok (.istore 5, 2) := by decide +kernel
theorem dX2_first_61 : decode cX2_first 61 = .ok (.iload 5, 2) := by decide +kernel
theorem dX2_first_63 : decode cX2_first 63 = .ok (.ifCond .lt 18, 3) := by decide +kernel
theorem dX2_first_66 : decode cX2_first 66 = .ok (.iload 5, 2) := by decide +kernel
theorem dX2_first_68 : decode cX2_first 68 = .ok (.iload_n 3, 1) := by decide +kernel
theorem dX2_first_69 : decode cX2_first 69 = .ok (.if_icmp .lt 6, 3) := by decide +kernel
theorem dX2_first_72 : decode cX2_first 72 = .ok (.goto 9, 3) := by decide +kernel
theorem dX2_first_75 : decode cX2_first 75 = .ok (.iload 4, 2) := by decide +kernel
theorem dX2_first_77 : decode cX2_first 77 = .ok (.istore_n 2, 1) := by decide +kernel
theorem dX2_first_78 : decode cX2_first 78 = .ok (.iload 5, 2) := by decide +kernel
theorem dX2_first_80 : decode cX2_first 80 = .ok (.istore_n 3, 1) := by decide +kernel
theorem dX2_first_81 : decode cX2_first 81 = .ok (.iinc 4 1, 3) := by decide +kernel
theorem dX2_first_84 : decode cX2_first 84 = .ok (.goto (-59), 3) := by decide +kernel
theorem dX2_first_87 : decode cX2_first 87 = .ok (.iload_n 2, 1) := by decide +kernel
theorem dX2_first_88 : decode cX2_first 88 = .ok (.ifCond .lt 7, 3) := by decide +kernel
theorem dX2_first_91 : decode cX2_first 91 = .ok (.iload_n 1, 1) := by decide +kernel
theorem dX2_first_92 : decode cX2_first 92 = .ok (.ifCond .ne 7, 3) := by decide +kernel
theorem dX2_first_95 : decode cX2_first 95 = .ok (.iload_n 2, 1) := by decide +kernel
theorem dX2_first_96 : decode cX2_first 96 = .ok (.goto 4, 3) := by decide +kernel
theorem dX2_first_99 : decode cX2_first 99 = .ok (.iload_n 3, 1) := by decide +kernel
theorem dX2_first_100 : decode cX2_first 100 = .ok (.ireturn, 1) := by decide +kernel
theorem dX2_allStand_0 : decode cX2_allStand 0 = .ok (.aload_n 0, 1) := by decide +kernel
theorem dX2_allStand_1 : decode cX2_allStand 1 = .ok (.getfield 9, 3) := by decide +kernel
theorem dX2_allStand_4 : decode cX2_allStand 4 = .ok (.aload_n 0, 1) := by decide +kernel
theorem dX2_allStand_5 : decode cX2_allStand 5 = .ok (.getfield 13, 3) := by decide +kernel
theorem dX2_allStand_8 : decode cX2_allStand 8 = .ok (.invokestatic 121, 3) := by decide +kernel
theorem dX2_allStand_11 : decode cX2_allStand 11 = .ok (.aload_n 0, 1) := by decide +kernel
theorem dX2_allStand_12 : decode cX2_allStand 12 = .ok (.getfield 9, 3) := by decide +kernel
theorem dX2_allStand_15 : decode cX2_allStand 15 = .ok (.iconst 1, 1) := by decide +kernel
theorem dX2_allStand_16 : decode cX2_allStand 16 = .ok (.invokestatic 73, 3) := by decide +kernel
theorem dX2_allStand_19 : decode cX2_allStand 19 = .ok (.istore_n 1, 1) := by decide +kernel
theorem dX2_allStand_20 : decode cX2_allStand 20 = .ok (.iconst 0, 1) := by decide +kernel
theorem dX2_allStand_21 : decode cX2_allStand 21 = .ok (.istore_n 2, 1) := by decide +kernel
theorem dX2_allStand_22 : decode cX2_allStand 22 = .ok (.iload_n 2, 1) := by decide +kernel
theorem dX2_allStand_23 : decode cX2_allStand 23 = .ok (.bipush 99, 2) := by decide +kernel
theorem dX2_allStand_25 : decode cX2_allStand 25 = .ok (.if_icmp .ge 31, 3) := by decide +kernel
theorem dX2_allStand_28 : decode cX2_allStand 28 = .ok (.aload_n 0, 1) := by decide +kernel
theorem dX2_allStand_29 : decode cX2_allStand 29 = .ok (.getfield 13, 3) := by decide +kernel
theorem dX2_allStand_32 : decode cX2_allStand 32 = .ok (.iconst 0, 1) := by decide +kernel
theorem dX2_allStand_33 : decode cX2_allStand 33 = .ok (.invokestatic 80, 3) := by decide +kernel
theorem dX2_allStand_36 : decode cX2_allStand 36 = .ok (.aload_n 0, 1) := by decide +kernel
theorem dX2_allStand_37 : decode cX2_allStand 37 = .ok (.getfield 13, 3) := by decide +kernel
theorem dX2_allStand_40 : decode cX2_allStand 40 = .ok (.iconst 1, 1) := by decide +kernel
theorem dX2_allStand_41 : decode cX2_allStand 41 = .ok (.invokestatic 73, 3) := by decide +kernel
theorem dX2_allStand_44 : decode cX2_allStand 44 = .ok (.iload_n 1, 1) := by decide +kernel
theorem dX2_allStand_45 : decode cX2_allStand 45 = .ok (.if_icmp .eq 5, 3) := by decide +kernel
theorem dX2_allStand_48 : decode cX2_allStand 48 = .ok (.iload_n 2, 1) := by decide +kernel
theorem dX2_allStand_49 : decode cX2_allStand 49 = .ok (.ireturn, 1) := by decide +kernel
theorem dX2_allStand_50 : decode cX2_allStand 50 = .ok (.iinc 2 1, 3) := by decide +kernel
theorem dX2_allStand_53 : decode cX2_allStand 53 = .ok (.goto (-31), 3) := by decide +kernel
theorem dX2_allStand_56 : decode cX2_allStand 56 = .ok (.bipush 99, 2) := by decide +kernel
theorem dX2_allStand_58 : decode cX2_allStand 58 = .ok (.ireturn, 1) := by decide +kernel
theorem dX2_isAbove_0 : decode cX2_isAbove 0 = .ok (.aload_n 0, 1) := by decide +kernel
theorem dX2_isAbove_1 : decode cX2_isAbove 1 = .ok (.getfield 9, 3) := by decide +kernel
theorem dX2_isAbove_4 : decode cX2_isAbove 4 = .ok (.iload_n 1, 1) := by decide +kernel
theorem dX2_isAbove_5 : decode cX2_isAbove 5 = .ok (.iconst 2, 1) := by decide +kernel
theorem dX2_isAbove_6 : decode cX2_isAbove 6 = .ok (.invokestatic 44, 3) := by decide +kernel
theorem dX2_isAbove_9 : decode cX2_isAbove 9 = .ok (.iaload, 1) := by decide +kernel
theorem dX2_isAbove_10 : decode cX2_isAbove 10 = .ok (.istore_n 3, 1) := by decide +kernel
theorem dX2_isAbove_11 : decode cX2_isAbove 11 = .ok (.iload_n 3, 1) := by decide +kernel
theorem dX2_isAbove_12 : decode cX2_isAbove 12 = .ok (.ifCond .lt 22, 3) := by decide +kernel
theorem dX2_isAbove_15 : decode cX2_isAbove 15 = .ok (.iload_n 3, 1) := by decide +kernel
theorem dX2_isAbove_16 : decode cX2_isAbove 16 = .ok (.iload_n 2, 1) := by decide +kernel
theorem dX2_isAbove_17 : decode cX2_isAbove 17 = .ok (.if_icmp .eq 17, 3) := by decide +kernel
theorem dX2_isAbove_20 : decode cX2_isAbove 20 = .ok (.aload_n 0, 1) := by decide +kernel
theorem dX2_isAbove_21 : decode cX2_isAbove 21 = .ok (.getfield 9, 3) := by decide +kernel
theorem dX2_isAbove_24 : decode cX2_isAbove 24 = .ok (.iload_n 3, 1) := by decide +kernel
theorem dX2_isAbove_25 : decode cX2_isAbove 25 = .ok (.iconst 2, 1) := by decide +kernel
theorem dX2_isAbove_26 : decode cX2_isAbove 26 = .ok (.invokestatic 44, 3) := by decide +kernel
theorem dX2_isAbove_29 : decode cX2_isAbove 29 = .ok (.iaload, 1) := by decide +kernel
theorem dX2_isAbove_30 : decode cX2_isAbove 30 = .ok (.istore_n 3, 1) := by decide +kernel
theorem dX2_isAbove_31 : decode cX2_isAbove 31 = .ok (.goto (-20), 3) := by decide +kernel
theorem dX2_isAbove_34 : decode cX2_isAbove 34 = .ok (.iload_n 3, 1) := by decide +kernel
theorem dX2_isAbove_35 : decode cX2_isAbove 35 = .ok (.iload_n 2, 1) := by decide +kernel
theorem dX2_isAbove_36 : decode cX2_isAbove 36 = .ok (.if_icmp .ne 7, 3) := by decide +kernel
theorem dX2_isAbove_39 : decode cX2_isAbove 39 = .ok (.iconst 1, 1) := by decide +kernel
theorem dX2_isAbove_40 : decode cX2_isAbove 40 = .ok (.goto 4, 3) := by decide +kernel
theorem dX2_isAbove_43 : decode cX2_isAbove 43 = .ok (.iconst 0, 1) := by decide +kernel
theorem dX2_isAbove_44 : decode cX2_isAbove 44 = .ok (.ireturn, 1) := by decide +kernel
theorem dX2_tower_0 : decode cX2_tower 0 = .ok (.aload_n 0, 1) := by decide +kernel
theorem dX2_tower_1 : decode cX2_tower 1 = .ok (.iload_n 1, 1) := by decide +kernel
theorem dX2_tower_2 : decode cX2_tower 2 = .ok (.invokevirtual 105, 3) := by decide +kernel
theorem dX2_tower_5 : decode cX2_tower 5 = .ok (.ifCond .ne 9, 3) := by decide +kernel
theorem dX2_tower_8 : decode cX2_tower 8 = .ok (.aload_n 0, 1) := by decide +kernel
theorem dX2_tower_9 : decode cX2_tower 9 = .ok (.iconst (-1), 1) := by decide +kernel
theorem dX2_tower_10 : decode cX2_tower 10 = .ok (.invokevirtual 36, 3) := by decide +kernel
theorem dX2_tower_13 : decode cX2_tower 13 = .ok (.ireturn, 1) := by decide +kernel
theorem dX2_tower_14 : decode cX2_tower 14 = .ok (.iload_n 2, 1) := by decide +kernel
theorem dX2_tower_15 : decode cX2_tower 15 = .ok (.iconst 0, 1) := by decide +kernel
theorem dX2_tower_16 : decode cX2_tower 16 = .ok (.iconst 2, 1) := by decide +kernel
theorem dX2_tower_17 : decode cX2_tower 17 = .ok (.invokestatic 40, 3) := by decide +kernel
theorem dX2_tower_20 : decode cX2_tower 20 = .ok (.ifCond .ne 10, 3) := by decide +kernel
theorem dX2_tower_23 : decode cX2_tower 23 = .ok (.aload_n 0, 1) := by decide +kernel
theorem dX2_tower_24 : decode cX2_tower 24 = .ok (.bipush (-2), 2) := by decide +kernel
theorem dX2_tower_26 : decode cX2_tower 26 = .ok (.invokevirtual 36, 3) := by decide +kernel
theorem dX2_tower_29 : decode cX2_tower 29 = .ok (.ireturn, 1) := by decide +kernel
theorem dX2_tower_30 : decode cX2_tower 30 = .ok (.iconst 0, 1) := by decide +kernel
theorem dX2_tower_31 : decode cX2_tower 31 = .ok (.istore_n 3, 1) := by decide +kernel
theorem dX2_tower_32 : decode cX2_tower 32 = .ok (.iconst 0, 1) := by decide +kernel
theorem dX2_tower_33 : decode cX2_tower 33 = .ok (.istore 4, 2) := by decide +kernel
theorem dX2_tower_35 : decode cX2_tower 35 = .ok (.iload_n 1, 1) := by decide +kernel
theorem dX2_tower_36 : decode cX2_tower 36 = .ok (.istore 5, 2) := by decide +kernel
theorem dX2_tower_38 : decode cX2_tower 38 = .ok (.iconst 0, 1) := by decide +kernel
theorem dX2_tower_39 : decode cX2_tower 39 = .ok (.istore 6, 2) := by decide +kernel
theorem dX2_tower_41 : decode cX2_tower 41 = .ok (.iload 6, 2) := by decide +kernel
theorem dX2_tower_43 : decode cX2_tower 43 = .ok (.aload_n 0, 1) := by decide +kernel
theorem dX2_tower_44 : decode cX2_tower 44 = .ok (.getfield 9, 3) := by decide +kernel
theorem dX2_tower_47 : decode cX2_tower 47 = .ok (.iconst 0, 1) := by decide +kernel
theorem dX2_tower_48 : decode cX2_tower 48 = .ok (.iaload, 1) := by decide +kernel
theorem dX2_tower_49 : decode cX2_tower 49 = .ok (.if_icmp .ge 30, 3) := by decide +kernel
theorem dX2_tower_52 : decode cX2_tower 52 = .ok (.iload_n 3, 1) := by decide +kernel
theorem dX2_tower_53 : decode cX2_tower 53 = .ok (.aload_n 0, 1) := by decide +kernel
theorem dX2_tower_54 : decode cX2_tower 54 = .ok (.iload 6, 2) := by decide +kernel
theorem dX2_tower_56 : decode cX2_tower 56 = .ok (.iload_n 1, 1) := by decide +kernel
theorem dX2_tower_57 : decode cX2_tower 57 = .ok (.invokevirtual 148, 3) := by decide +kernel
theorem dX2_tower_60 : decode cX2_tower 60 = .ok (.ifCond .eq 10, 3) := by decide +kernel
theorem dX2_tower_63 : decode cX2_tower 63 = .ok (.iconst 1, 1) := by decide +kernel
theorem dX2_tower_64 : decode cX2_tower 64 = .ok (.iload 6, 2) := by decide +kernel
theorem dX2_tower_66 : decode cX2_tower 66 = .ok (.ishl, 1) := by decide +kernel
theorem dX2_tower_67 : decode cX2_tower 67 = .ok (.goto 4, 3) := by decide +kernel
theorem dX2_tower_70 : decode cX2_tower 70 = .ok (.iconst 0, 1) := by decide +kernel
theorem dX2_tower_71 : decode cX2_tower 71 = .ok (.ior, 1) := by decide +kernel
theorem dX2_tower_72 : decode cX2_tower 72 = .ok (.istore_n 3, 1) := by decide +kernel
theorem dX2_tower_73 : decode cX2_tower 73 = .ok (.iinc 6 1, 3) := by decide +kernel
theorem dX2_tower_76 : decode cX2_tower 76 = .ok (.goto (-35), 3) := by decide +kernel
theorem dX2_tower_79 : decode cX2_tower 79 = .ok (.aload_n 0, 1) := by decide +kernel
theorem dX2_tower_80 : decode cX2_tower 80 = .ok (.getfield 9, 3) := by decide +kernel
theorem dX2_tower_83 : decode cX2_tower 83 = .ok (.iload 5, 2) := by decide +kernel
theorem dX2_tower_85 : decode cX2_tower 85 = .ok (.iconst 2, 1) := by decide +kernel
theorem dX2_tower_86 : decode cX2_tower 86 = .ok (.invokestatic 44, 3) := by decide +kernel
theorem dX2_tower_89 : decode cX2_tower 89 = .ok (.iaload, 1) := by decide +kernel
theorem dX2_tower_90 : decode cX2_tower 90 = .ok (.ifCond .lt 22, 3) := by decide +kernel
theorem dX2_tower_93 : decode cX2_tower 93 = .ok (.aload_n 0, 1) := by decide +kernel
theorem dX2_tower_94 : decode cX2_tower 94 = .ok (.getfield 9, 3) := by decide +kernel
theorem dX2_tower_97 : decode cX2_tower 97 = .ok (.iload 5, 2) := by decide +kernel
theorem dX2_tower_99 : decode cX2_tower 99 = .ok (.iconst 2, 1) := by decide +kernel
theorem dX2_tower_100 : decode cX2_tower 100 = .ok (.invokestatic 44, 3) := by decide +kernel
theorem dX2_tower_103 : decode cX2_tower 103 = .ok (.iaload, 1) := by decide +kernel
theorem dX2_tower_104 : decode cX2_tower 104 = .ok (.istore 5, 2) := by decide +kernel
theorem dX2_tower_106 : decode cX2_tower 106 = .ok (.iinc 4 1, 3) := by decide +kernel
theorem dX2_tower_109 : decode cX2_tower 109 = .ok (.goto (-30), 3) := by decide +kernel
theorem dX2_tower_112 : decode cX2_tower 112 = .ok (.iload_n 2, 1) := by decide +kernel
theorem dX2_tower_113 : decode cX2_tower 113 = .ok (.ifCond .ne 8, 3) := by decide +kernel
theorem dX2_tower_116 : decode cX2_tower 116 = .ok (.iload 4, 2) := by decide +kernel
theorem dX2_tower_118 : decode cX2_tower 118 = .ok (.goto 14, 3) := by decide +kernel
theorem dX2_tower_121 : decode cX2_tower 121 = .ok (.iload_n 2, 1) := by decide +kernel
theorem dX2_tower_122 : decode cX2_tower 122 = .ok (.iconst 1, 1) := by decide +kernel
theorem dX2_tower_123 : decode cX2_tower 123 = .ok (.if_icmp .ne 7, 3) := by decide +kernel
theorem dX2_tower_126 : decode cX2_tower 126 = .ok (.iload_n 3, 1) := by decide +kernel
theorem dX2_tower_127 : decode cX2_tower 127 = .ok (.goto 5, 3) := by decide +kernel
theorem dX2_tower_130 : decode cX2_tower 130 = .ok (.iload 5, 2) := by decide +kernel
theorem dX2_tower_132 : decode cX2_tower 132 = .ok (.ireturn, 1) := by decide +kernel
theorem dX2_leastSpeed_0 : decode cX2_leastSpeed 0 = .ok (.aload_n 0, 1) := by decide +kernel
theorem dX2_leastSpeed_1 : decode cX2_leastSpeed 1 = .ok (.iload_n 1, 1) := by decide +kernel
theorem dX2_leastSpeed_2 : decode cX2_leastSpeed 2 = .ok (.iconst 0, 1) := by decide +kernel
theorem dX2_leastSpeed_3 : decode cX2_leastSpeed 3 = .ok (.invokevirtual 131, 3) := by decide +kernel
theorem dX2_leastSpeed_6 : decode cX2_leastSpeed 6 = .ok (.istore_n 2, 1) := by decide +kernel
theorem dX2_leastSpeed_7 : decode cX2_leastSpeed 7 = .ok (.iload_n 2, 1) := by decide +kernel
theorem dX2_leastSpeed_8 : decode cX2_leastSpeed 8 = .ok (.ifCond .eq 9, 3) := by decide +kernel
theorem dX2_leastSpeed_11 : decode cX2_leastSpeed 11 = .ok (.aload_n 0, 1) := by decide +kernel
theorem dX2_leastSpeed_12 : decode cX2_leastSpeed 12 = .ok (.iload_n 2, 1) := by decide +kernel
theorem dX2_leastSpeed_13 : decode cX2_leastSpeed 13 = .ok (.invokevirtual 36, 3) := by decide +kernel
theorem dX2_leastSpeed_16 : decode cX2_leastSpeed 16 = .ok (.ireturn, 1) := by decide +kernel
theorem dX2_leastSpeed_17 : decode cX2_leastSpeed 17 = .ok (.iconst 0, 1) := by decide +kernel
theorem dX2_leastSpeed_18 : decode cX2_leastSpeed 18 = .ok (.istore_n 3, 1) := by decide +kernel
theorem dX2_leastSpeed_19 : decode cX2_leastSpeed 19 = .ok (.iload_n 3, 1) := by decide +kernel
theorem dX2_leastSpeed_20 : decode cX2_leastSpeed 20 = .ok (.bipush 10, 2) := by decide +kernel
theorem dX2_leastSpeed_22 : decode cX2_leastSpeed 22 = .ok (.if_icmp .ge 23, 3) := by decide +kernel
theorem dX2_leastSpeed_25 : decode cX2_leastSpeed 25 = .ok (.aload_n 0, 1) := by decide +kernel
theorem dX2_leastSpeed_26 : decode cX2_leastSpeed 26 = .ok (.getfield 9, 3) := by decide +kernel
theorem dX2_leastSpeed_29 : decode cX2_leastSpeed 29 = .ok (.iload_n 1, 1) := by decide +kernel
theorem dX2_leastSpeed_30 : decode cX2_leastSpeed 30 = .ok (.iload_n 3, 1) := by decide +kernel
theorem dX2_leastSpeed_31 : decode cX2_leastSpeed 31 = .ok (.invokestatic 63, 3) := by decide +kernel
theorem dX2_leastSpeed_34 : decode cX2_leastSpeed 34 = .ok (.ifCond .ne 5, 3) := by decide +kernel
theorem dX2_leastSpeed_37 : decode cX2_leastSpeed 37 = .ok (.iload_n 3, 1) := by decide +kernel
theorem dX2_leastSpeed_38 : decode cX2_leastSpeed 38 = .ok (.ireturn, 1) := by decide +kernel
theorem dX2_leastSpeed_39 : decode cX2_leastSpeed 39 = .ok (.iinc 3 1, 3) := by decide +kernel
theorem dX2_leastSpeed_42 : decode cX2_leastSpeed 42 = .ok (.goto (-23), 3) := by decide +kernel
theorem dX2_leastSpeed_45 : decode cX2_leastSpeed 45 = .ok (.bipush (-9), 2) := by decide +kernel
theorem dX2_leastSpeed_47 : decode cX2_leastSpeed 47 = .ok (.ireturn, 1) := by decide +kernel
theorem dX2_atOnce_0 : decode cX2_atOnce 0 = .ok (.aload_n 0, 1) := by decide +kernel
theorem dX2_atOnce_1 : decode cX2_atOnce 1 = .ok (.iload_n 1, 1) := by decide +kernel
theorem dX2_atOnce_2 : decode cX2_atOnce 2 = .ok (.iload_n 2, 1) := by decide +kernel
theorem dX2_atOnce_3 : decode cX2_atOnce 3 = .ok (.invokevirtual 131, 3) := by decide +kernel
theorem dX2_atOnce_6 : decode cX2_atOnce 6 = .ok (.istore_n 3, 1) := by decide +kernel
theorem dX2_atOnce_7 : decode cX2_atOnce 7 = .ok (.iload_n 3, 1) := by decide +kernel
theorem dX2_atOnce_8 : decode cX2_atOnce 8 = .ok (.ifCond .eq 11, 3) := by decide +kernel
theorem dX2_atOnce_11 : decode cX2_atOnce 11 = .ok (.aload_n 0, 1) := by decide +kernel
theorem dX2_atOnce_12 : decode cX2_atOnce 12 = .ok (.iload_n 3, 1) := by decide +kernel
theorem dX2_atOnce_13 : decode cX2_atOnce 13 = .ok (.invokevirtual 36, 3) := by decide +kernel
theorem dX2_atOnce_16 : decode cX2_atOnce 16 = .ok (.goto 12, 3) := by decide +kernel
theorem dX2_atOnce_19 : decode cX2_atOnce 19 = .ok (.aload_n 0, 1) := by decide +kernel
theorem dX2_atOnce_20 : decode cX2_atOnce 20 = .ok (.getfield 9, 3) := by decide +kernel
theorem dX2_atOnce_23 : decode cX2_atOnce 23 = .ok (.iload_n 1, 1) := by decide +kernel
theorem dX2_atOnce_24 : decode cX2_atOnce 24 = .ok (.iload_n 2, 1) := by decide +kernel
theorem dX2_atOnce_25 : decode cX2_atOnce 25 = .ok (.invokestatic 63, 3) := by decide +kernel
theorem dX2_atOnce_28 : decode cX2_atOnce 28 = .ok (.ireturn, 1) := by decide +kernel
theorem dX2_later_0 : decode cX2_later 0 = .ok (.aload_n 0, 1) := by decide +kernel
theorem dX2_later_1 : decode cX2_later 1 = .ok (.iload_n 1, 1) := by decide +kernel
theorem dX2_later_2 : decode cX2_later 2 = .ok (.invokevirtual 105, 3) := by decide +kernel
theorem dX2_later_5 : decode cX2_later 5 = .ok (.ifCond .ne 7, 3) := by decide +kernel
theorem dX2_later_8 : decode cX2_later 8 = .ok (.iconst (-1), 1) := by decide +kernel
theorem dX2_later_9 : decode cX2_later 9 = .ok (.goto 50, 3) := by decide +kernel
theorem dX2_later_12 : decode cX2_later 12 = .ok (.iload_n 2, 1) := by decide +kernel
theorem dX2_later_13 : decode cX2_later 13 = .ok (.ifCond .lt 7, 3) := by decide +kernel
theorem dX2_later_16 : decode cX2_later 16 = .ok (.iload_n 3, 1) := by decide +kernel
theorem dX2_later_17 : decode cX2_later 17 = .ok (.ifCond .ge 8, 3) := by decide +kernel
theorem dX2_later_20 : decode cX2_later 20 = .ok (.bipush (-4), 2) := by decide +kernel
theorem dX2_later_22 : decode cX2_later 22 = .ok (.goto 37, 3) := by decide +kernel
theorem dX2_later_25 : decode cX2_later 25 = .ok (.iload_n 2, 1) := by decide +kernel
theorem dX2_later_26 : decode cX2_later 26 = .ok (.bipush 9, 2) := by decide +kernel
theorem dX2_later_28 : decode cX2_later 28 = .ok (.if_icmp .gt 9, 3) := by decide +kernel
theorem dX2_later_31 : decode cX2_later 31 = .ok (.iload_n 3, 1) := by decide +kernel
theorem dX2_later_32 : decode cX2_later 32 = .ok (.bipush 99, 2) := by decide +kernel
theorem dX2_later_34 : decode cX2_later 34 = .ok (.if_icmp .le 8, 3) := by decide +kernel
theorem dX2_later_37 : decode cX2_later 37 = .ok (.bipush (-6), 2) := by decide +kernel
theorem dX2_later_39 : decode cX2_later 39 = .ok (.goto 20, 3) := by decide +kernel
theorem dX2_later_42 : decode cX2_later 42 = .ok (.aload_n 0, 1) := by decide +kernel
theorem dX2_later_43 : decode cX2_later 43 = .ok (.getfield 9, 3) := by decide +kernel
theorem dX2_later_46 : decode cX2_later 46 = .ok (.iload_n 1, 1) := by decide +kernel
theorem dX2_later_47 : decode cX2_later 47 = .ok (.invokestatic 55, 3) := by decide +kernel
theorem dX2_later_50 : decode cX2_later 50 = .ok (.ifCond .eq 7, 3) := by decide +kernel
theorem dX2_later_53 : decode cX2_later 53 = .ok (.iconst 0, 1) := by decide +kernel
theorem dX2_later_54 : decode cX2_later 54 = .ok (.goto 5, 3) := by decide +kernel
theorem dX2_later_57 : decode cX2_later 57 = .ok (.bipush (-3), 2) := by decide +kernel
theorem dX2_later_59 : decode cX2_later 59 = .ok (.istore 4, 2) := by decide +kernel
theorem dX2_later_61 : decode cX2_later 61 = .ok (.iload 4, 2) := by decide +kernel
theorem dX2_later_63 : decode cX2_later 63 = .ok (.ifCond .eq 10, 3) := by decide +kernel
theorem dX2_later_66 : decode cX2_later 66 = .ok (.aload_n 0, 1) := by decide +kernel
theorem dX2_later_67 : decode cX2_later 67 = .ok (.iload 4, 2) := by decide +kernel
theorem dX2_later_69 : decode cX2_later 69 = .ok (.invokevirtual 36, 3) := by decide +kernel
theorem dX2_later_72 : decode cX2_later 72 = .ok (.ireturn, 1) := by decide +kernel
theorem dX2_later_73 : decode cX2_later 73 = .ok (.aload_n 0, 1) := by decide +kernel
theorem dX2_later_74 : decode cX2_later 74 = .ok (.iload_n 3, 1) := by decide +kernel
theorem dX2_later_75 : decode cX2_later 75 = .ok (.invokevirtual 134, 3) := by decide +kernel
theorem dX2_later_78 : decode cX2_later 78 = .ok (.aload_n 0, 1) := by decide +kernel
theorem dX2_later_79 : decode cX2_later 79 = .ok (.getfield 13, 3) := by decide +kernel
theorem dX2_later_82 : decode cX2_later 82 = .ok (.iconst 1, 1) := by decide +kernel
theorem dX2_later_83 : decode cX2_later 83 = .ok (.invokestatic 73, 3) := by decide +kernel
theorem dX2_later_86 : decode cX2_later 86 = .ok (.istore 5, 2) := by decide +kernel
theorem dX2_later_88 : decode cX2_later 88 = .ok (.aload_n 0, 1) := by decide +kernel
theorem dX2_later_89 : decode cX2_later 89 = .ok (.getfield 9, 3) := by decide +kernel
theorem dX2_later_92 : decode cX2_later 92 = .ok (.aload_n 0, 1) := by decide +kernel
theorem dX2_later_93 : decode cX2_later 93 = .ok (.getfield 13, 3) := by decide +kernel
theorem dX2_later_96 : decode cX2_later 96 = .ok (.invokestatic 121, 3) := by decide +kernel
theorem dX2_later_99 : decode cX2_later 99 = .ok (.aload_n 0, 1) := by decide +kernel
theorem dX2_later_100 : decode cX2_later 100 = .ok (.getfield 9, 3) := by decide +kernel
theorem dX2_later_103 : decode cX2_later 103 = .ok (.iload_n 1, 1) := by decide +kernel
theorem dX2_later_104 : decode cX2_later 104 = .ok (.iload_n 2, 1) := by decide +kernel
theorem dX2_later_105 : decode cX2_later 105 = .ok (.invokestatic 63, 3) := by decide +kernel
theorem dX2_later_108 : decode cX2_later 108 = .ok (.istore 6, 2) := by decide +kernel
theorem dX2_later_110 : decode cX2_later 110 = .ok (.aload_n 0, 1) := by decide +kernel
theorem dX2_later_111 : decode cX2_later 111 = .ok (.getfield 13, 3) := by decide +kernel
theorem dX2_later_114 : decode cX2_later 114 = .ok (.iload_n 1, 1) := by decide +kernel
theorem dX2_later_115 : decode cX2_later 115 = .ok (.iload_n 2, 1) := by decide +kernel
theorem dX2_later_116 : decode cX2_later 116 = .ok (.invokestatic 112, 3) := by decide +kernel
theorem dX2_later_119 : decode cX2_later 119 = .ok (.istore 7, 2) := by decide +kernel
theorem dX2_later_121 : decode cX2_later 121 = .ok (.aload_n 0, 1) := by decide +kernel
theorem dX2_later_122 : decode cX2_later 122 = .ok (.getfield 13, 3) := by decide +kernel
theorem dX2_later_125 : decode cX2_later 125 = .ok (.iload_n 3, 1) := by decide +kernel
theorem dX2_later_126 : decode cX2_later 126 = .ok (.invokestatic 115, 3) := by decide +kernel
theorem dX2_later_129 : decode cX2_later 129 = .ok (.aload_n 0, 1) := by decide +kernel
theorem dX2_later_130 : decode cX2_later 130 = .ok (.getfield 13, 3) := by decide +kernel
theorem dX2_later_133 : decode cX2_later 133 = .ok (.iconst 1, 1) := by decide +kernel
theorem dX2_later_134 : decode cX2_later 134 = .ok (.invokestatic 73, 3) := by decide +kernel
theorem dX2_later_137 : decode cX2_later 137 = .ok (.iload 6, 2) := by decide +kernel
theorem dX2_later_139 : decode cX2_later 139 = .ok (.iconst (-1), 1) := by decide +kernel
theorem dX2_later_140 : decode cX2_later 140 = .ok (.ixor, 1) := by decide +kernel
theorem dX2_later_141 : decode cX2_later 141 = .ok (.iand, 1) := by decide +kernel
theorem dX2_later_142 : decode cX2_later 142 = .ok (.iload 5, 2) := by decide +kernel
theorem dX2_later_144 : decode cX2_later 144 = .ok (.iconst (-1), 1) := by decide +kernel
theorem dX2_later_145 : decode cX2_later 145 = .ok (.ixor, 1) := by decide +kernel
theorem dX2_later_146 : decode cX2_later 146 = .ok (.iand, 1) := by decide +kernel
theorem dX2_later_147 : decode cX2_later 147 = .ok (.ireturn, 1) := by decide +kernel
theorem dX2_pullsSet_0 : decode cX2_pullsSet 0 = .ok (.aload_n 0, 1) := by decide +kernel
theorem dX2_pullsSet_1 : decode cX2_pullsSet 1 = .ok (.getfield 9, 3) := by decide +kernel
theorem dX2_pullsSet_4 : decode cX2_pullsSet 4 = .ok (.aload_n 0, 1) := by decide +kernel
theorem dX2_pullsSet_5 : decode cX2_pullsSet 5 = .ok (.getfield 13, 3) := by decide +kernel
theorem dX2_pullsSet_8 : decode cX2_pullsSet 8 = .ok (.invokestatic 121, 3) := by decide +kernel
theorem dX2_pullsSet_11 : decode cX2_pullsSet 11 = .ok (.iconst 0, 1) := by decide +kernel
theorem dX2_pullsSet_12 : decode cX2_pullsSet 12 = .ok (.istore_n 2, 1) := by decide +kernel
theorem dX2_pullsSet_13 : decode cX2_pullsSet 13 = .ok (.iload_n 2, 1) := by decide +kernel
theorem dX2_pullsSet_14 : decode cX2_pullsSet 14 = .ok (.aload_n 0, 1) := by decide +kernel
theorem dX2_pullsSet_15 : decode cX2_pullsSet 15 = .ok (.getfield 9, 3) := by decide +kernel
theorem dX2_pullsSet_18 : decode cX2_pullsSet 18 = .ok (.iconst 0, 1) := by decide +kernel
theorem dX2_pullsSet_19 : decode cX2_pullsSet 19 = .ok (.iaload, 1) := by decide +kernel
theorem dX2_pullsSet_20 : decode cX2_pullsSet 20 = .ok (.if_icmp .ge 44, 3) := by decide +kernel
theorem dX2_pullsSet_23 : decode cX2_pullsSet 23 = .ok (.iload_n 1, 1) := by decide +kernel
theorem dX2_pullsSet_24 : decode cX2_pullsSet 24 = .ok (.iload_n 2, 1) := by decide +kernel
theorem dX2_pullsSet_25 : decode cX2_pullsSet 25 = .ok (.invokestatic 51, 3) := by decide +kernel
theorem dX2_pullsSet_28 : decode cX2_pullsSet 28 = .ok (.ifCond .ne 6, 3) := by decide +kernel
theorem dX2_pullsSet_31 : decode cX2_pullsSet 31 = .ok (.goto 27, 3) := by decide +kernel
theorem dX2_pullsSet_34 : decode cX2_pullsSet 34 = .ok (.aload_n 0, 1) := by decide +kernel
theorem dX2_pullsSet_35 : decode cX2_pullsSet 35 = .ok (.getfield 13, 3) := by decide +kernel
theorem dX2_pullsSet_38 : decode cX2_pullsSet 38 = .ok (.iload_n 2, 1) := by decide +kernel
theorem dX2_pullsSet_39 : decode cX2_pullsSet 39 = .ok (.invokestatic 55, 3) := by decide +kernel
theorem dX2_pullsSet_42 : decode cX2_pullsSet 42 = .ok (.ifCond .ne 5, 3) := by decide +kernel
theorem dX2_pullsSet_45 : decode cX2_pullsSet 45 = .ok (.iconst 0, 1) := by decide +kernel
theorem dX2_pullsSet_46 : decode cX2_pullsSet 46 = .ok (.ireturn, 1) := by decide +kernel
theorem dX2_pullsSet_47 : decode cX2_pullsSet 47 = .ok (.aload_n 0, 1) := by decide +kernel
theorem dX2_pullsSet_48 : decode cX2_pullsSet 48 = .ok (.getfield 13, 3) := by decide +kernel
theorem dX2_pullsSet_51 : decode cX2_pullsSet 51 = .ok (.iload_n 2, 1) := by decide +kernel
theorem dX2_pullsSet_52 : decode cX2_pullsSet 52 = .ok (.bipush 9, 2) := by decide +kernel
theorem dX2_pullsSet_54 : decode cX2_pullsSet 54 = .ok (.invokestatic 112, 3) := by decide +kernel
theorem dX2_pullsSet_57 : decode cX2_pullsSet 57 = .ok (.istore_n 3, 1) := by decide +kernel
theorem dX2_pullsSet_58 : decode cX2_pullsSet 58 = .ok (.iinc 2 1, 3) := by decide +kernel
theorem dX2_pullsSet_61 : decode cX2_pullsSet 61 = .ok (.goto (-48), 3) := by decide +kernel
theorem dX2_pullsSet_64 : decode cX2_pullsSet 64 = .ok (.iconst 1, 1) := by decide +kernel
theorem dX2_pullsSet_65 : decode cX2_pullsSet 65 = .ok (.ireturn, 1) := by decide +kernel
theorem dX2_pullMost_0 : decode cX2_pullMost 0 = .ok (.aload_n 0, 1) := by decide +kernel
theorem dX2_pullMost_1 : decode cX2_pullMost 1 = .ok (.iload_n 1, 1) := by decide +kernel
theorem dX2_pullMost_2 : decode cX2_pullMost 2 = .ok (.invokevirtual 105, 3) := by decide +kernel
theorem dX2_pullMost_5 : decode cX2_pullMost 5 = .ok (.ifCond .eq 12, 3) := by decide +kernel
theorem dX2_pullMost_8 : decode cX2_pullMost 8 = .ok (.iload_n 2, 1) := by decide +kernel
theorem dX2_pullMost_9 : decode cX2_pullMost 9 = .ok (.bipush 30, 2) := by decide +kernel
theorem dX2_pullMost_11 : decode cX2_pullMost 11 = .ok (.invokestatic 128, 3) := by decide +kernel
theorem dX2_pullMost_14 : decode cX2_pullMost 14 = .ok (.goto 4, 3) := by decide +kernel
theorem dX2_pullMost_17 : decode cX2_pullMost 17 = .ok (.iconst (-1), 1) := by decide +kernel
theorem dX2_pullMost_18 : decode cX2_pullMost 18 = .ok (.istore 4, 2) := by decide +kernel
theorem dX2_pullMost_20 : decode cX2_pullMost 20 = .ok (.iload 4, 2) := by decide +kernel
theorem dX2_pullMost_22 : decode cX2_pullMost 22 = .ok (.ifCond .ne 16, 3) := by decide +kernel
theorem dX2_pullMost_25 : decode cX2_pullMost 25 = .ok (.iload_n 3, 1) := by decide +kernel
theorem dX2_pullMost_26 : decode cX2_pullMost 26 = .ok (.iconst 0, 1) := by decide +kernel
theorem dX2_pullMost_27 : decode cX2_pullMost 27 = .ok (.iconst 1, 1) := by decide +kernel
theorem dX2_pullMost_28 : decode cX2_pullMost 28 = .ok (.invokestatic 40, 3) := by decide +kernel
theorem dX2_pullMost_31 : decode cX2_pullMost 31 = .ok (.ifCond .ne 7, 3) := by decide +kernel
theorem dX2_pullMost_34 : decode cX2_pullMost 34 = .ok (.bipush (-2), 2) := by decide +kernel
theorem dX2_pullMost_36 : decode cX2_pullMost 36 = .ok (.istore 4, 2) := by decide +kernel
theorem dX2_pullMost_38 : decode cX2_pullMost 38 = .ok (.iload 4, 2) := by decide +kernel
theorem dX2_pullMost_40 : decode cX2_pullMost 40 = .ok (.ifCond .eq 10, 3) := by decide +kernel
theorem dX2_pullMost_43 : decode cX2_pullMost 43 = .ok (.aload_n 0, 1) := by decide +kernel
theorem dX2_pullMost_44 : decode cX2_pullMost 44 = .ok (.iload 4, 2) := by decide +kernel
theorem dX2_pullMost_46 : decode cX2_pullMost 46 = .ok (.invokevirtual 36, 3) := by decide +kernel
theorem dX2_pullMost_49 : decode cX2_pullMost 49 = .ok (.ireturn, 1) := by decide +kernel
theorem dX2_pullMost_50 : decode cX2_pullMost 50 = .ok (.bipush (-9), 2) := by decide +kernel
theorem dX2_pullMost_52 : decode cX2_pullMost 52 = .ok (.istore 5, 2) := by decide +kernel
theorem dX2_pullMost_54 : decode cX2_pullMost 54 = .ok (.iconst 0, 1) := by decide +kernel
theorem dX2_pullMost_55 : decode cX2_pullMost 55 = .ok (.istore 6, 2) := by decide +kernel
theorem dX2_pullMost_57 : decode cX2_pullMost 57 = .ok (.iload 6, 2) := by decide +kernel
theorem dX2_pullMost_59 : decode cX2_pullMost 59 = .ok (.iconst 1, 1) := by decide +kernel
theorem dX2_pullMost_60 : decode cX2_pullMost 60 = .ok (.aload_n 0, 1) := by decide +kernel
theorem dX2_pullMost_61 : decode cX2_pullMost 61 = .ok (.getfield 9, 3) := by decide +kernel
theorem dX2_pullMost_64 : decode cX2_pullMost 64 = .ok (.iconst 0, 1) := by decide +kernel
theorem dX2_pullMost_65 : decode cX2_pullMost 65 = .ok (.iaload, 1) := by decide +kernel
theorem dX2_pullMost_66 : decode cX2_pullMost 66 = .ok (.ishl, 1) := by decide +kernel
theorem dX2_pullMost_67 : decode cX2_pullMost 67 = .ok (.if_icmp .ge 71, 3) := by decide +kernel
theorem dX2_pullMost_70 : decode cX2_pullMost 70 = .ok (.iload 6, 2) := by decide +kernel
theorem dX2_pullMost_72 : decode cX2_pullMost 72 = .ok (.iload_n 1, 1) := by decide +kernel
theorem dX2_pullMost_73 : decode cX2_pullMost 73 = .ok (.invokestatic 51, 3) := by decide +kernel
theorem dX2_pullMost_76 : decode cX2_pullMost 76 = .ok (.ifCond .ne 56, 3) := by decide +kernel
theorem dX2_pullMost_79 : decode cX2_pullMost 79 = .ok (.iload 5, 2) := by decide +kernel
theorem dX2_pullMost_81 : decode cX2_pullMost 81 = .ok (.ifCond .lt 16, 3) := by decide +kernel
theorem dX2_pullMost_84 : decode cX2_pullMost 84 = .ok (.iload 6, 2) := by decide +kernel
theorem dX2_pullMost_86 : decode cX2_pullMost 86 = .ok (.invokestatic 67, 3) := by decide +kernel
theorem dX2_pullMost_89 : decode cX2_pullMost 89 = .ok (.iload 5, 2) := by decide +kernel
theorem dX2_pullMost_91 : decode cX2_pullMost 91 = .ok (.invokestatic 67, 3) := by decide +kernel
theorem dX2_pullMost_94 : decode cX2_pullMost 94 = .ok (.if_icmp .le 38, 3) := by decide +kernel
theorem dX2_pullMost_97 : decode cX2_pullMost 97 = .ok (.aload_n 0, 1) := by decide +kernel
theorem dX2_pullMost_98 : decode cX2_pullMost 98 = .ok (.iload 6, 2) := by decide +kernel
theorem dX2_pullMost_100 : decode cX2_pullMost 100 = .ok (.invokevirtual 151, 3) := by decide +kernel
theorem dX2_pullMost_103 : decode cX2_pullMost 103 = .ok (.ifCond .ne 6, 3) := by decide +kernel
theorem dX2_pullMost_106 : decode cX2_pullMost 106 = .ok (.goto 26, 3) := by decide +kernel
theorem dX2_pullMost_109 : decode cX2_pullMost 109 = .ok (.aload_n 0, 1) := by decide +kernel
theorem dX2_pullMost_110 : decode cX2_pullMost 110 = .ok (.getfield 13, 3) := by decide +kernel
theorem dX2_pullMost_113 : decode cX2_pullMost 113 = .ok (.iload_n 2, 1) := by decide +kernel
theorem dX2_pullMost_114 : decode cX2_pullMost 114 = .ok (.invokestatic 115, 3) := by decide +kernel
theorem dX2_pullMost_117 : decode cX2_pullMost 117 = .ok (.aload_n 0, 1) := by decide +kernel
theorem dX2_pullMost_118 : decode cX2_pullMost 118 = .ok (.getfield 13, 3) := by decide +kernel
theorem dX2_pullMost_121 : decode cX2_pullMost 121 = .ok (.iload_n 1, 1) := by decide +kernel
theorem dX2_pullMost_122 : decode cX2_pullMost 122 = .ok (.invokestatic 55, 3) := by decide +kernel
theorem dX2_pullMost_125 : decode cX2_pullMost 125 = .ok (.ifCond .eq 7, 3) := by decide +kernel
theorem dX2_pullMost_128 : decode cX2_pullMost 128 = .ok (.iload 6, 2) := by decide +kernel
theorem dX2_pullMost_130 : decode cX2_pullMost 130 = .ok (.istore 5, 2) := by decide +kernel
theorem dX2_pullMost_132 : decode cX2_pullMost 132 = .ok (.iinc 6 1, 3) := by decide +kernel
theorem dX2_pullMost_135 : decode cX2_pullMost 135 = .ok (.goto (-78), 3) := by decide +kernel
theorem dX2_pullMost_138 : decode cX2_pullMost 138 = .ok (.iload 5, 2) := by decide +kernel
theorem dX2_pullMost_140 : decode cX2_pullMost 140 = .ok (.ifCond .lt 8, 3) := by decide +kernel
theorem dX2_pullMost_143 : decode cX2_pullMost 143 = .ok (.iload_n 3, 1) := by decide +kernel
theorem dX2_pullMost_144 : decode cX2_pullMost 144 = .ok (.iconst 1, 1) := by decide +kernel
theorem dX2_pullMost_145 : decode cX2_pullMost 145 = .ok (.if_icmp .ne 8, 3) := by decide +kernel
theorem dX2_pullMost_148 : decode cX2_pullMost 148 = .ok (.iload 5, 2) := by decide +kernel
theorem dX2_pullMost_150 : decode cX2_pullMost 150 = .ok (.goto 8, 3) := by decide +kernel
theorem dX2_pullMost_153 : decode cX2_pullMost 153 = .ok (.iload 5, 2) := by decide +kernel
theorem dX2_pullMost_155 : decode cX2_pullMost 155 = .ok (.invokestatic 67, 3) := by decide +kernel
theorem dX2_pullMost_158 : decode cX2_pullMost 158 = .ok (.ireturn, 1) := by decide +kernel
theorem dX2_key_0 : decode cX2_key 0 = .ok (.iload_n 1, 1) := by decide +kernel
theorem dX2_key_1 : decode cX2_key 1 = .ok (.bipush 99, 2) := by decide +kernel
theorem dX2_key_3 : decode cX2_key 3 = .ok (.invokestatic 128, 3) := by decide +kernel
theorem dX2_key_6 : decode cX2_key 6 = .ok (.istore_n 2, 1) := by decide +kernel
theorem dX2_key_7 : decode cX2_key 7 = .ok (.iload_n 2, 1) := by decide +kernel
theorem dX2_key_8 : decode cX2_key 8 = .ok (.ifCond .eq 9, 3) := by decide +kernel
theorem dX2_key_11 : decode cX2_key 11 = .ok (.aload_n 0, 1) := by decide +kernel
theorem dX2_key_12 : decode cX2_key 12 = .ok (.iload_n 2, 1) := by decide +kernel
theorem dX2_key_13 : decode cX2_key 13 = .ok (.invokevirtual 36, 3) := by decide +kernel
theorem dX2_key_16 : decode cX2_key 16 = .ok (.ireturn, 1) := by decide +kernel
theorem dX2_key_17 : decode cX2_key 17 = .ok (.bipush (-9), 2) := by decide +kernel
theorem dX2_key_19 : decode cX2_key 19 = .ok (.istore_n 3, 1) := by decide +kernel
theorem dX2_key_20 : decode cX2_key 20 = .ok (.ldc 147, 2) := by decide +kernel
theorem dX2_key_22 : decode cX2_key 22 = .ok (.istore 4, 2) := by decide +kernel
theorem dX2_key_24 : decode cX2_key 24 = .ok (.iconst 0, 1) := by decide +kernel
theorem dX2_key_25 : decode cX2_key 25 = .ok (.istore 5, 2) := by decide +kernel
theorem dX2_key_27 : decode cX2_key 27 = .ok (.iload 5, 2) := by decide +kernel
theorem dX2_key_29 : decode cX2_key 29 = .ok (.aload_n 0, 1) := by decide +kernel
theorem dX2_key_30 : decode cX2_key 30 = .ok (.getfield 9, 3) := by decide +kernel
theorem dX2_key_33 : decode cX2_key 33 = .ok (.iconst 0, 1) := by decide +kernel
theorem dX2_key_34 : decode cX2_key 34 = .ok (.iaload, 1) := by decide +kernel
theorem dX2_key_35 : decode cX2_key 35 = .ok (.if_icmp .ge 52, 3) := by decide +kernel
theorem dX2_key_38 : decode cX2_key 38 = .ok (.aload_n 0, 1) := by decide +kernel
theorem dX2_key_39 : decode cX2_key 39 = .ok (.iconst 1, 1) := by decide +kernel
theorem dX2_key_40 : decode cX2_key 40 = .ok (.iload 5, 2) := by decide +kernel
theorem dX2_key_42 : decode cX2_key 42 = .ok (.ishl, 1) := by decide +kernel
theorem dX2_key_43 : decode cX2_key 43 = .ok (.invokevirtual 151, 3) := by decide +kernel
theorem dX2_key_46 : decode cX2_key 46 = .ok (.ifCond .ne 6, 3) := by decide +kernel
theorem dX2_key_49 : decode cX2_key 49 = .ok (.goto 32, 3) := by decide +kernel
theorem dX2_key_52 : decode cX2_key 52 = .ok (.aload_n 0, 1) := by decide +kernel
theorem dX2_key_53 : decode cX2_key 53 = .ok (.getfield 13, 3) := by decide +kernel
theorem dX2_key_56 : decode cX2_key 56 = .ok (.iload_n 1, 1) := by decide +kernel
theorem dX2_key_57 : decode cX2_key 57 = .ok (.invokestatic 115, 3) := by decide +kernel
theorem dX2_key_60 : decode cX2_key 60 = .ok (.aload_n 0, 1) := by decide +kernel
theorem dX2_key_61 : decode cX2_key 61 = .ok (.invokevirtual 138, 3) := by decide +kernel
theorem dX2_key_64 : decode cX2_key 64 = .ok (.iload 4, 2) := by decide +kernel
theorem dX2_key_66 : decode cX2_key 66 = .ok (.if_icmp .lt 6, 3) := by decide +kernel
theorem dX2_key_69 : decode cX2_key 69 = .ok (.goto 12, 3) := by decide +kernel
theorem dX2_key_72 : decode cX2_key 72 = .ok (.iload 5, 2) := by decide +kernel
theorem dX2_key_74 : decode cX2_key 74 = .ok (.istore_n 3, 1) := by decide +kernel
theorem dX2_key_75 : decode cX2_key 75 = .ok (.aload_n 0, 1) := by decide +kernel
theorem dX2_key_76 : decode cX2_key 76 = .ok (.invokevirtual 138, 3) := by decide +kernel
theorem dX2_key_79 : decode cX2_key 79 = .ok (.istore 4, 2) := by decide +kernel
theorem dX2_key_81 : decode cX2_key 81 = .ok (.iinc 5 1, 3) := by decide +kernel
theorem dX2_key_84 : decode cX2_key 84 = .ok (.goto (-57), 3) := by decide +kernel
theorem dX2_key_87 : decode cX2_key 87 = .ok (.iload_n 3, 1) := by decide +kernel
theorem dX2_key_88 : decode cX2_key 88 = .ok (.ireturn, 1) := by decide +kernel
theorem dX2_prop_0 : decode cX2_prop 0 = .ok (.iload_n 1, 1) := by decide +kernel
theorem dX2_prop_1 : decode cX2_prop 1 = .ok (.bipush 99, 2) := by decide +kernel
theorem dX2_prop_3 : decode cX2_prop 3 = .ok (.invokestatic 128, 3) := by decide +kernel
theorem dX2_prop_6 : decode cX2_prop 6 = .ok (.istore_n 2, 1) := by decide +kernel
theorem dX2_prop_7 : decode cX2_prop 7 = .ok (.iload_n 2, 1) := by decide +kernel
theorem dX2_prop_8 : decode cX2_prop 8 = .ok (.ifCond .eq 9, 3) := by decide +kernel
theorem dX2_prop_11 : decode cX2_prop 11 = .ok (.aload_n 0, 1) := by decide +kernel
theorem dX2_prop_12 : decode cX2_prop 12 = .ok (.iload_n 2, 1) := by decide +kernel
theorem dX2_prop_13 : decode cX2_prop 13 = .ok (.invokevirtual 36, 3) := by decide +kernel
theorem dX2_prop_16 : decode cX2_prop 16 = .ok (.ireturn, 1) := by decide +kernel
theorem dX2_prop_17 : decode cX2_prop 17 = .ok (.aload_n 0, 1) := by decide +kernel
theorem dX2_prop_18 : decode cX2_prop 18 = .ok (.getfield 9, 3) := by decide +kernel
theorem dX2_prop_21 : decode cX2_prop 21 = .ok (.iconst 0, 1) := by decide +kernel
theorem dX2_prop_22 : decode cX2_prop 22 = .ok (.invokestatic 73, 3) := by decide +kernel
theorem dX2_prop_25 : decode cX2_prop 25 = .ok (.istore_n 3, 1) := by decide +kernel
theorem dX2_prop_26 : decode cX2_prop 26 = .ok (.iload_n 3, 1) := by decide +kernel
theorem dX2_prop_27 : decode cX2_prop 27 = .ok (.istore 4, 2) := by decide +kernel
theorem dX2_prop_29 : decode cX2_prop 29 = .ok (.iconst 0, 1) := by decide +kernel
theorem dX2_prop_30 : decode cX2_prop 30 = .ok (.istore 5, 2) := by decide +kernel
theorem dX2_prop_32 : decode cX2_prop 32 = .ok (.iload 5, 2) := by decide +kernel
theorem dX2_prop_34 : decode cX2_prop 34 = .ok (.iload_n 3, 1) := by decide +kernel
theorem dX2_prop_35 : decode cX2_prop 35 = .ok (.if_icmp .ge 77, 3) := by decide +kernel
theorem dX2_prop_38 : decode cX2_prop 38 = .ok (.iload 5, 2) := by decide +kernel
theorem dX2_prop_40 : decode cX2_prop 40 = .ok (.iload_n 3, 1) := by decide +kernel
theorem dX2_prop_41 : decode cX2_prop 41 = .ok (.iconst (-1), 1) := by decide +kernel
theorem dX2_prop_42 : decode cX2_prop 42 = .ok (.ixor, 1) := by decide +kernel
theorem dX2_prop_43 : decode cX2_prop 43 = .ok (.iand, 1) := by decide +kernel
theorem dX2_prop_44 : decode cX2_prop 44 = .ok (.ifCond .ne 62, 3) := by decide +kernel
theorem dX2_prop_47 : decode cX2_prop 47 = .ok (.iload 5, 2) := by decide +kernel
theorem dX2_prop_49 : decode cX2_prop 49 = .ok (.invokestatic 67, 3) := by decide +kernel
theorem dX2_prop_52 : decode cX2_prop 52 = .ok (.iload 4, 2) := by decide +kernel
theorem dX2_prop_54 : decode cX2_prop 54 = .ok (.invokestatic 67, 3) := by decide +kernel
theorem dX2_prop_57 : decode cX2_prop 57 = .ok (.if_icmp .lt 6, 3) := by decide +kernel
theorem dX2_prop_60 : decode cX2_prop 60 = .ok (.goto 46, 3) := by decide +kernel
theorem dX2_prop_63 : decode cX2_prop 63 = .ok (.aload_n 0, 1) := by decide +kernel
theorem dX2_prop_64 : decode cX2_prop 64 = .ok (.getfield 9, 3) := by decide +kernel
theorem dX2_prop_67 : decode cX2_prop 67 = .ok (.aload_n 0, 1) := by decide +kernel
theorem dX2_prop_68 : decode cX2_prop 68 = .ok (.getfield 13, 3) := by decide +kernel
theorem dX2_prop_71 : decode cX2_prop 71 = .ok (.invokestatic 121, 3) := by decide +kernel
theorem dX2_prop_74 : decode cX2_prop 74 = .ok (.aload_n 0, 1) := by decide +kernel
theorem dX2_prop_75 : decode cX2_prop 75 = .ok (.getfield 13, 3) := by decide +kernel
theorem dX2_prop_78 : decode cX2_prop 78 = .ok (.iconst 3, 1) := by decide +kernel
theorem dX2_prop_79 : decode cX2_prop 79 = .ok (.iload 5, 2) := by decide +kernel
theorem dX2_prop_81 : decode cX2_prop 81 = .ok (.iastore, 1) := by decide +kernel
theorem dX2_prop_82 : decode cX2_prop 82 = .ok (.aload_n 0, 1) := by decide +kernel
theorem dX2_prop_83 : decode cX2_prop 83 = .ok (.getfield 13, 3) := by decide +kernel
theorem dX2_prop_86 : decode cX2_prop 86 = .ok (.iload_n 1, 1) := by decide +kernel
theorem dX2_prop_87 : decode cX2_prop 87 = .ok (.invokestatic 115, 3) := by decide +kernel
theorem dX2_prop_90 : decode cX2_prop 90 = .ok (.aload_n 0, 1) := by decide +kernel
theorem dX2_prop_91 : decode cX2_prop 91 = .ok (.getfield 13, 3) := by decide +kernel
theorem dX2_prop_94 : decode cX2_prop 94 = .ok (.iconst 0, 1) := by decide +kernel
theorem dX2_prop_95 : decode cX2_prop 95 = .ok (.invokestatic 73, 3) := by decide +kernel
theorem dX2_prop_98 : decode cX2_prop 98 = .ok (.iload_n 3, 1) := by decide +kernel
theorem dX2_prop_99 : decode cX2_prop 99 = .ok (.if_icmp .ne 7, 3) := by decide +kernel
theorem dX2_prop_102 : decode cX2_prop 102 = .ok (.iload 5, 2) := by decide +kernel
theorem dX2_prop_104 : decode cX2_prop 104 = .ok (.istore 4, 2) := by decide +kernel
theorem dX2_prop_106 : decode cX2_prop 106 = .ok (.iinc 5 1, 3) := by decide +kernel
theorem dX2_prop_109 : decode cX2_prop 109 = .ok (.goto (-77), 3) := by decide +kernel
theorem dX2_prop_112 : decode cX2_prop 112 = .ok (.iload 4, 2) := by decide +kernel
theorem dX2_prop_114 : decode cX2_prop 114 = .ok (.ireturn, 1) := by decide +kernel
theorem dX2_standingBy_0 : decode cX2_standingBy 0 = .ok (.aload_n 0, 1) := by decide +kernel
theorem dX2_standingBy_1 : decode cX2_standingBy 1 = .ok (.getfield 9, 3) := by decide +kernel
theorem dX2_standingBy_4 : decode cX2_standingBy 4 = .ok (.aload_n 0, 1) := by decide +kernel
theorem dX2_standingBy_5 : decode cX2_standingBy 5 = .ok (.getfield 13, 3) := by decide +kernel
theorem dX2_standingBy_8 : decode cX2_standingBy 8 = .ok (.invokestatic 121, 3) := by decide +kernel
theorem dX2_standingBy_11 : decode cX2_standingBy 11 = .ok (.iconst 0, 1) := by decide +kernel
theorem dX2_standingBy_12 : decode cX2_standingBy 12 = .ok (.istore 5, 2) := by decide +kernel
theorem dX2_standingBy_14 : decode cX2_standingBy 14 = .ok (.iload 5, 2) := by decide +kernel
theorem dX2_standingBy_16 : decode cX2_standingBy 16 = .ok (.bipush 10, 2) := by decide +kernel
theorem dX2_standingBy_18 : decode cX2_standingBy 18 = .ok (.if_icmp .ge 84, 3) := by decide +kernel
theorem dX2_standingBy_21 : decode cX2_standingBy 21 = .ok (.iload 5, 2) := by decide +kernel
theorem dX2_standingBy_23 : decode cX2_standingBy 23 = .ok (.ifCond .ne 7, 3) := by decide +kernel
theorem dX2_standingBy_26 : decode cX2_standingBy 26 = .ok (.iload_n 1, 1) := by decide +kernel
theorem dX2_standingBy_27 : decode cX2_standingBy 27 = .ok (.goto 25, 3) := by decide +kernel
theorem dX2_standingBy_30 : decode cX2_standingBy 30 = .ok (.iload 5, 2) := by decide +kernel
theorem dX2_standingBy_32 : decode cX2_standingBy 32 = .ok (.iconst 1, 1) := by decide +kernel
theorem dX2_standingBy_33 : decode cX2_standingBy 33 = .ok (.if_icmp .ne 7, 3) := by decide +kernel
theorem dX2_standingBy_36 : decode cX2_standingBy 36 = .ok (.iload_n 2, 1) := by decide +kernel
theorem dX2_standingBy_37 : decode cX2_standingBy 37 = .ok (.goto 15, 3) := by decide +kernel
theorem dX2_standingBy_40 : decode cX2_standingBy 40 = .ok (.iload 5, 2) := by decide +kernel
theorem dX2_standingBy_42 : decode cX2_standingBy 42 = .ok (.iconst 2, 1) := by decide +kernel
theorem dX2_standingBy_43 : decode cX2_standingBy 43 = .ok (.if_icmp .ne 7, 3) := by decide +kernel
theorem dX2_standingBy_46 : decode cX2_standingBy 46 = .ok (.iload_n 3, 1) := by decide +kernel
theorem dX2_standingBy_47 : decode cX2_standingBy 47 = .ok (.goto 5, 3) := by decide +kernel
theorem dX2_standingBy_50 : decode cX2_standingBy 50 = .ok (.bipush (-9), 2) := by decide +kernel
theorem dX2_standingBy_52 : decode cX2_standingBy 52 = .ok (.istore 6, 2) := by decide +kernel
theorem dX2_standingBy_54 : decode cX2_standingBy 54 = .ok (.iload 6, 2) := by decide +kernel
theorem dX2_standingBy_56 : decode cX2_standingBy 56 = .ok (.ifCond .lt 29, 3) := by decide +kernel
theorem dX2_standingBy_59 : decode cX2_standingBy 59 = .ok (.aload_n 0, 1) := by decide +kernel
theorem dX2_standingBy_60 : decode cX2_standingBy 60 = .ok (.getfield 13, 3) := by decide +kernel
theorem dX2_standingBy_63 : decode cX2_standingBy 63 = .ok (.iload 6, 2) := by decide +kernel
theorem dX2_standingBy_65 : decode cX2_standingBy 65 = .ok (.invokestatic 55, 3) := by decide +kernel
theorem dX2_standingBy_68 : decode cX2_standingBy 68 = .ok (.ifCond .eq 17, 3) := by decide +kernel
theorem dX2_standingBy_71 : decode cX2_standingBy 71 = .ok (.aload_n 0, 1) := by decide +kernel
theorem dX2_standingBy_72 : decode cX2_standingBy 72 = .ok (.getfield 13, 3) := by decide +kernel
theorem dX2_standingBy_75 : decode cX2_standingBy 75 = .ok (.iload 6, 2) := by decide +kernel
theorem dX2_standingBy_77 : decode cX2_standingBy 77 = .ok (.iload 4, 2) := by decide +kernel
theorem dX2_standingBy_79 : decode cX2_standingBy 79 = .ok (.invokestatic 112, 3) := by decide +kernel
theorem dX2_standingBy_82 : decode cX2_standingBy 82 = .ok (.goto 4, 3) := by decide +kernel
theorem dX2_standingBy_85 : decode cX2_standingBy 85 = .ok (.iconst 0, 1) := by decide +kernel
theorem dX2_standingBy_86 : decode cX2_standingBy 86 = .ok (.istore 7, 2) := by decide +kernel
theorem dX2_standingBy_88 : decode cX2_standingBy 88 = .ok (.aload_n 0, 1) := by decide +kernel
theorem dX2_standingBy_89 : decode cX2_standingBy 89 = .ok (.getfield 13, 3) := by decide +kernel
theorem dX2_standingBy_92 : decode cX2_standingBy 92 = .ok (.iconst 0, 1) := by decide +kernel
theorem dX2_standingBy_93 : decode cX2_standingBy 93 = .ok (.invokestatic 80, 3) := by decide +kernel
theorem dX2_standingBy_96 : decode cX2_standingBy 96 = .ok (.iinc 5 1, 3) := by decide +kernel
theorem dX2_standingBy_99 : decode cX2_standingBy 99 = .ok (.goto (-85), 3) := by decide +kernel
theorem dX2_standingBy_102 : decode cX2_standingBy 102 = .ok (.aload_n 0, 1) := by decide +kernel
theorem dX2_standingBy_103 : decode cX2_standingBy 103 = .ok (.invokevirtual 138, 3) := by decide +kernel
theorem dX2_standingBy_106 : decode cX2_standingBy 106 = .ok (.ireturn, 1) := by decide +kernel
theorem dX2_placed_0 : decode cX2_placed 0 = .ok (.iload_n 3, 1) := by decide +kernel
theorem dX2_placed_1 : decode cX2_placed 1 = .ok (.ifCond .ne 7, 3) := by decide +kernel
theorem dX2_placed_4 : decode cX2_placed 4 = .ok (.iload_n 0, 1) := by decide +kernel
theorem dX2_placed_5 : decode cX2_placed 5 = .ok (.goto 13, 3) := by decide +kernel
theorem dX2_placed_8 : decode cX2_placed 8 = .ok (.iload_n 3, 1) := by decide +kernel
theorem dX2_placed_9 : decode cX2_placed 9 = .ok (.iconst 1, 1) := by decide +kernel
theorem dX2_placed_10 : decode cX2_placed 10 = .ok (.if_icmp .ne 7, 3) := by decide +kernel
theorem dX2_placed_13 : decode cX2_placed 13 = .ok (.iload_n 1, 1) := by decide +kernel
theorem dX2_placed_14 : decode cX2_placed 14 = .ok (.goto 4, 3) := by decide +kernel
theorem dX2_placed_17 : decode cX2_placed 17 = .ok (.iload_n 2, 1) := by decide +kernel
theorem dX2_placed_18 : decode cX2_placed 18 = .ok (.ireturn, 1) := by decide +kernel
theorem dX2_order_0 : decode cX2_order 0 = .ok (.aload_n 0, 1) := by decide +kernel
theorem dX2_order_1 : decode cX2_order 1 = .ok (.iload_n 1, 1) := by decide +kernel
theorem dX2_order_2 : decode cX2_order 2 = .ok (.invokevirtual 105, 3) := by decide +kernel
theorem dX2_order_5 : decode cX2_order 5 = .ok (.ifCond .eq 34, 3) := by decide +kernel
theorem dX2_order_8 : decode cX2_order 8 = .ok (.aload_n 0, 1) := by decide +kernel
theorem dX2_order_9 : decode cX2_order 9 = .ok (.iload_n 2, 1) := by decide +kernel
theorem dX2_order_10 : decode cX2_order 10 = .ok (.invokevirtual 105, 3) := by decide +kernel
theorem dX2_order_13 : decode cX2_order 13 = .ok (.ifCond .eq 26, 3) := by decide +kernel
theorem dX2_order_16 : decode cX2_order 16 = .ok (.aload_n 0, 1) := by decide +kernel
theorem dX2_order_17 : decode cX2_order 17 = .ok (.iload_n 3, 1) := by decide +kernel
theorem dX2_order_18 : decode cX2_order 18 = .ok (.invokevirtual 105, 3) := by decide +kernel
theorem dX2_order_21 : decode cX2_order 21 = .ok (.ifCond .eq 18, 3) := by decide +kernel
theorem dX2_order_24 : decode cX2_order 24 = .ok (.iload_n 1, 1) := by decide +kernel
theorem dX2_order_25 : decode cX2_order 25 = .ok (.iload_n 2, 1) := by decide +kernel
theorem dX2_order_26 : decode cX2_order 26 = .ok (.if_icmp .eq 13, 3) := by decide +kernel
theorem dX2_order_29 : decode cX2_order 29 = .ok (.iload_n 1, 1) := by decide +kernel
theorem dX2_order_30 : decode cX2_order 30 = .ok (.iload_n 3, 1) := by decide +kernel
theorem dX2_order_31 : decode cX2_order 31 = .ok (.if_icmp .eq 8, 3) := by decide +kernel
theorem dX2_order_34 : decode cX2_order 34 = .ok (.iload_n 2, 1) := by decide +kernel
theorem dX2_order_35 : decode cX2_order 35 = .ok (.iload_n 3, 1) := by decide +kernel
theorem dX2_order_36 : decode cX2_order 36 = .ok (.if_icmp .ne 7, 3) := by decide +kernel
theorem dX2_order_39 : decode cX2_order 39 = .ok (.iconst (-1), 1) := by decide +kernel
theorem dX2_order_40 : decode cX2_order 40 = .ok (.goto 10, 3) := by decide +kernel
theorem dX2_order_43 : decode cX2_order 43 = .ok (.iload 4, 2) := by decide +kernel
theorem dX2_order_45 : decode cX2_order 45 = .ok (.bipush 9, 2) := by decide +kernel
theorem dX2_order_47 : decode cX2_order 47 = .ok (.invokestatic 128, 3) := by decide +kernel
theorem dX2_order_50 : decode cX2_order 50 = .ok (.istore 6, 2) := by decide +kernel
theorem dX2_order_52 : decode cX2_order 52 = .ok (.iload 6, 2) := by decide +kernel
theorem dX2_order_54 : decode cX2_order 54 = .ok (.ifCond .ne 17, 3) := by decide +kernel
theorem dX2_order_57 : decode cX2_order 57 = .ok (.iload 5, 2) := by decide +kernel
theorem dX2_order_59 : decode cX2_order 59 = .ok (.iconst 0, 1) := by decide +kernel
theorem dX2_order_60 : decode cX2_order 60 = .ok (.iconst 1, 1) := by decide +kernel
theorem dX2_order_61 : decode cX2_order 61 = .ok (.invokestatic 40, 3) := by decide +kernel
theorem dX2_order_64 : decode cX2_order 64 = .ok (.ifCond .ne 7, 3) := by decide +kernel
theorem dX2_order_67 : decode cX2_order 67 = .ok (.bipush (-2), 2) := by decide +kernel
theorem dX2_order_69 : decode cX2_order 69 = .ok (.istore 6, 2) := by decide +kernel
theorem dX2_order_71 : decode cX2_order 71 = .ok (.iload 6, 2) := by decide +kernel
theorem dX2_order_73 : decode cX2_order 73 = .ok (.ifCond .eq 10, 3) := by decide +kernel
theorem dX2_order_76 : decode cX2_order 76 = .ok (.aload_n 0, 1) := by decide +kernel
theorem dX2_order_77 : decode cX2_order 77 = .ok (.iload 6, 2) := by decide +kernel
theorem dX2_order_79 : decode cX2_order 79 = .ok (.invokevirtual 36, 3) := by decide +kernel
theorem dX2_order_82 : decode cX2_order 82 = .ok (.ireturn, 1) := by decide +kernel
theorem dX2_order_83 : decode cX2_order 83 = .ok (.iconst 0, 1) := by decide +kernel
theorem dX2_order_84 : decode cX2_order 84 = .ok (.istore 7, 2) := by decide +kernel
theorem dX2_order_86 : decode cX2_order 86 = .ok (.iconst (-1), 1) := by decide +kernel
theorem dX2_order_87 : decode cX2_order 87 = .ok (.istore 8, 2) := by decide +kernel
theorem dX2_order_89 : decode cX2_order 89 = .ok (.iconst 0, 1) := by decide +kernel
theorem dX2_order_90 : decode cX2_order 90 = .ok (.istore 9, 2) := by decide +kernel
theorem dX2_order_92 : decode cX2_order 92 = .ok (.iload 9, 2) := by decide +kernel
theorem dX2_order_94 : decode cX2_order 94 = .ok (.iconst 3, 1) := by decide +kernel
theorem dX2_order_95 : decode cX2_order 95 = .ok (.if_icmp .ge 106, 3) := by decide +kernel
theorem dX2_order_98 : decode cX2_order 98 = .ok (.iconst 0, 1) := by decide +kernel
theorem dX2_order_99 : decode cX2_order 99 = .ok (.istore 10, 2) := by decide +kernel
theorem dX2_order_101 : decode cX2_order 101 = .ok (.iload 10, 2) := by decide +kernel
theorem dX2_order_103 : decode cX2_order 103 = .ok (.iconst 3, 1) := by decide +kernel
theorem dX2_order_104 : decode cX2_order 104 = .ok (.if_icmp .ge 91, 3) := by decide +kernel
theorem dX2_order_107 : decode cX2_order 107 = .ok (.iconst 3, 1) := by decide +kernel
theorem dX2_order_108 : decode cX2_order 108 = .ok (.iload 9, 2) := by decide +kernel
theorem dX2_order_110 : decode cX2_order 110 = .ok (.isub, 1) := by decide +kernel
theorem dX2_order_111 : decode cX2_order 111 = .ok (.iload 10, 2) := by decide +kernel
theorem dX2_order_113 : decode cX2_order 113 = .ok (.isub, 1) := by decide +kernel
theorem dX2_order_114 : decode cX2_order 114 = .ok (.istore 11, 2) := by decide +kernel
theorem dX2_order_116 : decode cX2_order 116 = .ok (.iload 9, 2) := by decide +kernel
theorem dX2_order_118 : decode cX2_order 118 = .ok (.iload 10, 2) := by decide +kernel
theorem dX2_order_120 : decode cX2_order 120 = .ok (.if_icmp .ne 7, 3) := by decide +kernel
theorem dX2_order_123 : decode cX2_order 123 = .ok (.iconst (-1), 1) := by decide +kernel
theorem dX2_order_124 : decode cX2_order 124 = .ok (.goto 33, 3) := by decide +kernel
theorem dX2_order_127 : decode cX2_order 127 = .ok (.aload_n 0, 1) := by decide +kernel
theorem dX2_order_128 : decode cX2_order 128 = .ok (.iload_n 1, 1) := by decide +kernel
theorem dX2_order_129 : decode cX2_order 129 = .ok (.iload_n 2, 1) := by decide +kernel
theorem dX2_order_130 : decode cX2_order 130 = .ok (.iload_n 3, 1) := by decide +kernel
theorem dX2_order_131 : decode cX2_order 131 = .ok (.iload 9, 2) := by decide +kernel
theorem dX2_order_133 : decode cX2_order 133 = .ok (.invokestatic 154, 3) := by decide +kernel
theorem dX2_order_136 : decode cX2_order 136 = .ok (.iload_n 1, 1) := by decide +kernel
theorem dX2_order_137 : decode cX2_order 137 = .ok (.iload_n 2, 1) := by decide +kernel
theorem dX2_order_138 : decode cX2_order 138 = .ok (.iload_n 3, 1) := by decide +kernel
theorem dX2_order_139 : decode cX2_order 139 = .ok (.iload 10, 2) := by decide +kernel
theorem dX2_order_141 : decode cX2_order 141 = .ok (.invokestatic 154, 3) := by decide +kernel
theorem dX2_order_144 : decode cX2_order 144 = .ok (.iload_n 1, 1) := by decide +kernel
theorem dX2_order_145 : decode cX2_order 145 = .ok (.iload_n 2, 1) := by decide +kernel
theorem dX2_order_146 : decode cX2_order 146 = .ok (.iload_n 3, 1) := by decide +kernel
theorem dX2_order_147 : decode cX2_order 147 = .ok (.iload 11, 2) := by decide +kernel
theorem dX2_order_149 : decode cX2_order 149 = .ok (.invokestatic 154, 3) := by decide +kernel
theorem dX2_order_152 : decode cX2_order 152 = .ok (.iload 4, 2) := by decide +kernel
theorem dX2_order_154 : decode cX2_order 154 = .ok (.invokevirtual 158, 3) := by decide +kernel
theorem dX2_order_157 : decode cX2_order 157 = .ok (.istore 12, 2) := by decide +kernel
theorem dX2_order_159 : decode cX2_order 159 = .ok (.iload 12, 2) := by decide +kernel
theorem dX2_order_161 : decode cX2_order 161 = .ok (.iload 8, 2) := by decide +kernel
theorem dX2_order_163 : decode cX2_order 163 = .ok (.if_icmp .gt 6, 3) := by decide +kernel
theorem dX2_order_166 : decode cX2_order 166 = .ok (.goto 23, 3) := by decide +kernel
theorem dX2_order_169 : decode cX2_order 169 = .ok (.bipush 100, 2) := by decide +kernel
theorem dX2_order_171 : decode cX2_order 171 = .ok (.iload 9, 2) := by decide +kernel
theorem dX2_order_173 : decode cX2_order 173 = .ok (.imul, 1) := by decide +kernel
theorem dX2_order_174 : decode cX2_order 174 = .ok (.bipush 10, 2) := by decide +kernel
theorem dX2_order_176 : decode cX2_order 176 = .ok (.iload 10, 2) := by decide +kernel
theorem dX2_order_178 : decode cX2_order 178 = .ok (.imul, 1) := by decide +kernel
theorem dX2_order_179 : decode cX2_order 179 = .ok (.iadd, 1) := by decide +kernel
theorem dX2_order_180 : decode cX2_order 180 = .ok (.iload 11, 2) := by decide +kernel
theorem dX2_order_182 : decode cX2_order 182 = .ok (.iadd, 1) := by decide +kernel
theorem dX2_order_183 : decode cX2_order 183 = .ok (.istore 7, 2) := by decide +kernel
theorem dX2_order_185 : decode cX2_order 185 = .ok (.iload 12, 2) := by decide +kernel
theorem dX2_order_187 : decode cX2_order 187 = .ok (.istore 8, 2) := by decide +kernel
theorem dX2_order_189 : decode cX2_order 189 = .ok (.iinc 10 1, 3) := by decide +kernel
theorem dX2_order_192 : decode cX2_order 192 = .ok (.goto (-91), 3) := by decide +kernel
theorem dX2_order_195 : decode cX2_order 195 = .ok (.iinc 9 1, 3) := by decide +kernel
theorem dX2_order_198 : decode cX2_order 198 = .ok (.goto (-106), 3) := by decide +kernel
theorem dX2_order_201 : decode cX2_order 201 = .ok (.iload 5, 2) := by decide +kernel
theorem dX2_order_203 : decode cX2_order 203 = .ok (.ifCond .ne 8, 3) := by decide +kernel
theorem dX2_order_206 : decode cX2_order 206 = .ok (.iload 7, 2) := by decide +kernel
theorem dX2_order_208 : decode cX2_order 208 = .ok (.goto 5, 3) := by decide +kernel
theorem dX2_order_211 : decode cX2_order 211 = .ok (.iload 8, 2) := by decide +kernel
theorem dX2_order_213 : decode cX2_order 213 = .ok (.ireturn, 1) := by decide +kernel
theorem dX2_floorFalls_0 : decode cX2_floorFalls 0 = .ok (.iload_n 1, 1) := by decide +kernel
theorem dX2_floorFalls_1 : decode cX2_floorFalls 1 = .ok (.bipush 9, 2) := by decide +kernel
theorem dX2_floorFalls_3 : decode cX2_floorFalls 3 = .ok (.invokestatic 128, 3) := by decide +kernel
theorem dX2_floorFalls_6 : decode cX2_floorFalls 6 = .ok (.istore_n 2, 1) := by decide +kernel
theorem dX2_floorFalls_7 : decode cX2_floorFalls 7 = .ok (.iload_n 2, 1) := by decide +kernel
theorem dX2_floorFalls_8 : decode cX2_floorFalls 8 = .ok (.ifCond .eq 9, 3) := by decide +kernel
theorem dX2_floorFalls_11 : decode cX2_floorFalls 11 = .ok (.aload_n 0, 1) := by decide +kernel
theorem dX2_floorFalls_12 : decode cX2_floorFalls 12 = .ok (.iload_n 2, 1) := by decide +kernel
theorem dX2_floorFalls_13 : decode cX2_floorFalls 13 = .ok (.invokevirtual 36, 3) := by decide +kernel
theorem dX2_floorFalls_16 : decode cX2_floorFalls 16 = .ok (.ireturn, 1) := by decide +kernel
theorem dX2_floorFalls_17 : decode cX2_floorFalls 17 = .ok (.aload_n 0, 1) := by decide +kernel
theorem dX2_floorFalls_18 : decode cX2_floorFalls 18 = .ok (.getfield 9, 3) := by decide +kernel
theorem dX2_floorFalls_21 : decode cX2_floorFalls 21 = .ok (.iconst 2, 1) := by decide +kernel
theorem dX2_floorFalls_22 : decode cX2_floorFalls 22 = .ok (.iaload, 1) := by decide +kernel
theorem dX2_floorFalls_23 : decode cX2_floorFalls 23 = .ok (.ifCond .ne 8, 3) := by decide +kernel
theorem dX2_floorFalls_26 : decode cX2_floorFalls 26 = .ok (.bipush (-9), 2) := by decide +kernel
theorem dX2_floorFalls_28 : decode cX2_floorFalls 28 = .ok (.goto 16, 3) := by decide +kernel
theorem dX2_floorFalls_31 : decode cX2_floorFalls 31 = .ok (.aload_n 0, 1) := by decide +kernel
theorem dX2_floorFalls_32 : decode cX2_floorFalls 32 = .ok (.getfield 9, 3) := by decide +kernel
theorem dX2_floorFalls_35 : decode cX2_floorFalls 35 = .ok (.bipush (-9), 2) := by decide +kernel
theorem dX2_floorFalls_37 : decode cX2_floorFalls 37 = .ok (.iload_n 1, 1) := by decide +kernel
theorem dX2_floorFalls_38 : decode cX2_floorFalls 38 = .ok (.invokestatic 63, 3) := by decide +kernel
theorem dX2_floorFalls_41 : decode cX2_floorFalls 41 = .ok (.invokestatic 67, 3) := by decide +kernel
theorem dX2_floorFalls_44 : decode cX2_floorFalls 44 = .ok (.ireturn, 1) := by decide +kernel
theorem dX2_watched_0 : decode cX2_watched 0 = .ok (.iload_n 1, 1) := by decide +kernel
theorem dX2_watched_1 : decode cX2_watched 1 = .ok (.iconst 0, 1) := by decide +kernel
theorem dX2_watched_2 : decode cX2_watched 2 = .ok (.iconst 1, 1) := by decide +kernel
theorem dX2_watched_3 : decode cX2_watched 3 = .ok (.invokestatic 40, 3) := by decide +kernel
theorem dX2_watched_6 : decode cX2_watched 6 = .ok (.ifCond .ne 10, 3) := by decide +kernel
theorem dX2_watched_9 : decode cX2_watched 9 = .ok (.aload_n 0, 1) := by decide +kernel
theorem dX2_watched_10 : decode cX2_watched 10 = .ok (.bipush (-2), 2) := by decide +kernel
theorem dX2_watched_12 : decode cX2_watched 12 = .ok (.invokevirtual 36, 3) := by decide +kernel
theorem dX2_watched_15 : decode cX2_watched 15 = .ok (.ireturn, 1) := by decide +kernel
theorem dX2_watched_16 : decode cX2_watched 16 = .ok (.iconst 0, 1) := by decide +kernel
theorem dX2_watched_17 : decode cX2_watched 17 = .ok (.istore_n 2, 1) := by decide +kernel
theorem dX2_watched_18 : decode cX2_watched 18 = .ok (.iconst 1, 1) := by decide +kernel
theorem dX2_watched_19 : decode cX2_watched 19 = .ok (.istore_n 3, 1) := by decide +kernel
theorem dX2_watched_20 : decode cX2_watched 20 = .ok (.iconst 0, 1) := by decide +kernel
theorem dX2_watched_21 : decode cX2_watched 21 = .ok (.istore 4, 2) := by decide +kernel
theorem dX2_watched_23 : decode cX2_watched 23 = .ok (.iload 4, 2) := by decide +kernel
theorem dX2_watched_25 : decode cX2_watched 25 = .ok (.aload_n 0, 1) := by decide +kernel
theorem dX2_watched_26 : decode cX2_watched 26 = .ok (.getfield 9, 3) := by decide +kernel
theorem dX2_watched_29 : decode cX2_watched 29 = .ok (.iconst 0, 1) := by decide +kernel
theorem dX2_watched_30 : decode cX2_watched 30 = .ok (.iaload, 1) := by decide +kernel
theorem dX2_watched_31 : decode cX2_watched 31 = .ok (.if_icmp .ge 76, 3) := by decide +kernel
theorem dX2_watched_34 : decode cX2_watched 34 = .ok (.aload_n 0, 1) := by decide +kernel
theorem dX2_watched_35 : decode cX2_watched 35 = .ok (.getfield 9, 3) := by decide +kernel
theorem dX2_watched_38 : decode cX2_watched 38 = .ok (.iload 4, 2) := by decide +kernel
theorem dX2_watched_40 : decode cX2_watched 40 = .ok (.invokestatic 55, 3) := by decide +kernel
theorem dX2_watched_43 : decode cX2_watched 43 = .ok (.ifCond .ne 6, 3) := by decide +kernel
theorem dX2_watched_46 : decode cX2_watched 46 = .ok (.goto 55, 3) := by decide +kernel
theorem dX2_watched_49 : decode cX2_watched 49 = .ok (.iload_n 2, 1) := by decide +kernel
theorem dX2_watched_50 : decode cX2_watched 50 = .ok (.aload_n 0, 1) := by decide +kernel
theorem dX2_watched_51 : decode cX2_watched 51 = .ok (.getfield 9, 3) := by decide +kernel
theorem dX2_watched_54 : decode cX2_watched 54 = .ok (.iload 4, 2) := by decide +kernel
theorem dX2_watched_56 : decode cX2_watched 56 = .ok (.iconst 0, 1) := by decide +kernel
theorem dX2_watched_57 : decode cX2_watched 57 = .ok (.invokestatic 44, 3) := by decide +kernel
theorem dX2_watched_60 : decode cX2_watched 60 = .ok (.iaload, 1) := by decide +kernel
theorem dX2_watched_61 : decode cX2_watched 61 = .ok (.iconst 4, 1) := by decide +kernel
theorem dX2_watched_62 : decode cX2_watched 62 = .ok (.if_icmp .ne 18, 3) := by decide +kernel
theorem dX2_watched_65 : decode cX2_watched 65 = .ok (.aload_n 0, 1) := by decide +kernel
theorem dX2_watched_66 : decode cX2_watched 66 = .ok (.getfield 9, 3) := by decide +kernel
theorem dX2_watched_69 : decode cX2_watched 69 = .ok (.iconst 1, 1) := by decide +kernel
theorem dX2_watched_70 : decode cX2_watched 70 = .ok (.invokestatic 73, 3) := by decide +kernel
theorem dX2_watched_73 : decode cX2_watched 73 = .ok (.ifCond .eq 7, 3) := by decide +kernel
theorem dX2_watched_76 : decode cX2_watched 76 = .ok (.iconst 1, 1) := by decide +kernel
theorem dX2_watched_77 : decode cX2_watched 77 = .ok (.goto 4, 3) := by decide +kernel
theorem dX2_watched_80 : decode cX2_watched 80 = .ok (.iconst 0, 1) := by decide +kernel
theorem dX2_watched_81 : decode cX2_watched 81 = .ok (.iadd, 1) := by decide +kernel
theorem dX2_watched_82 : decode cX2_watched 82 = .ok (.istore_n 2, 1) := by decide +kernel
theorem dX2_watched_83 : decode cX2_watched 83 = .ok (.aload_n 0, 1) := by decide +kernel
theorem dX2_watched_84 : decode cX2_watched 84 = .ok (.getfield 9, 3) := by decide +kernel
theorem dX2_watched_87 : decode cX2_watched 87 = .ok (.iload 4, 2) := by decide +kernel
theorem dX2_watched_89 : decode cX2_watched 89 = .ok (.invokestatic 70, 3) := by decide +kernel
theorem dX2_watched_92 : decode cX2_watched 92 = .ok (.ifCond .eq 7, 3) := by decide +kernel
theorem dX2_watched_95 : decode cX2_watched 95 = .ok (.iload_n 3, 1) := by decide +kernel
theorem dX2_watched_96 : decode cX2_watched 96 = .ok (.goto 4, 3) := by decide +kernel
theorem dX2_watched_99 : decode cX2_watched 99 = .ok (.iconst 0, 1) := by decide +kernel
theorem dX2_watched_100 : decode cX2_watched 100 = .ok (.istore_n 3, 1) := by decide +kernel
theorem dX2_watched_101 : decode cX2_watched 101 = .ok (.iinc 4 1, 3) := by decide +kernel
theorem dX2_watched_104 : decode cX2_watched 104 = .ok (.goto (-81), 3) := by decide +kernel
theorem dX2_watched_107 : decode cX2_watched 107 = .ok (.iload_n 1, 1) := by decide +kernel
theorem dX2_watched_108 : decode cX2_watched 108 = .ok (.ifCond .ne 7, 3) := by decide +kernel
theorem dX2_watched_111 : decode cX2_watched 111 = .ok (.iload_n 2, 1) := by decide +kernel
theorem dX2_watched_112 : decode cX2_watched 112 = .ok (.goto 4, 3) := by decide +kernel
theorem dX2_watched_115 : decode cX2_watched 115 = .ok (.iload_n 3, 1) := by decide +kernel
theorem dX2_watched_116 : decode cX2_watched 116 = .ok (.ireturn, 1) := by decide +kernel
theorem dX2_rebuilt_0 : decode cX2_rebuilt 0 = .ok (.iconst 0, 1) := by decide +kernel
theorem dX2_rebuilt_1 : decode cX2_rebuilt 1 = .ok (.istore_n 1, 1) := by decide +kernel
theorem dX2_rebuilt_2 : decode cX2_rebuilt 2 = .ok (.iload_n 1, 1) := by decide +kernel
theorem dX2_rebuilt_3 : decode cX2_rebuilt 3 = .ok (.aload_n 0, 1) := by decide +kernel
theorem dX2_rebuilt_4 : decode cX2_rebuilt 4 = .ok (.iconst 0, 1) := by decide +kernel
theorem dX2_rebuilt_5 : decode cX2_rebuilt 5 = .ok (.iaload, 1) := by decide +kernel
theorem dX2_rebuilt_6 : decode cX2_rebuilt 6 = .ok (.if_icmp .ge 30, 3) := by decide +kernel
theorem dX2_rebuilt_9 : decode cX2_rebuilt 9 = .ok (.aload_n 0, 1) := by decide +kernel
theorem dX2_rebuilt_10 : decode cX2_rebuilt 10 = .ok (.iload_n 1, 1) := by decide +kernel
theorem dX2_rebuilt_11 : decode cX2_rebuilt 11 = .ok (.iconst 3, 1) := by decide +kernel
theorem dX2_rebuilt_12 : decode cX2_rebuilt 12 = .ok (.invokestatic 44, 3) := by decide +kernel
theorem dX2_rebuilt_15 : decode cX2_rebuilt 15 = .ok (.iaload, 1) := by decide +kernel
theorem dX2_rebuilt_16 : decode cX2_rebuilt 16 = .ok (.iconst 1, 1) := by decide +kernel
theorem dX2_rebuilt_17 : decode cX2_rebuilt 17 = .ok (.if_icmp .ne 13, 3) := by decide +kernel
theorem dX2_rebuilt_20 : decode cX2_rebuilt 20 = .ok (.aload_n 0, 1) := by decide +kernel
theorem dX2_rebuilt_21 : decode cX2_rebuilt 21 = .ok (.iload_n 1, 1) := by decide +kernel
theorem dX2_rebuilt_22 : decode cX2_rebuilt 22 = .ok (.invokestatic 70, 3) := by decide +kernel
theorem dX2_rebuilt_25 : decode cX2_rebuilt 25 = .ok (.ifCond .eq 5, 3) := by decide +kernel
theorem dX2_rebuilt_28 : decode cX2_rebuilt 28 = .ok (.iload_n 1, 1) := by decide +kernel
theorem dX2_rebuilt_29 : decode cX2_rebuilt 29 = .ok (.ireturn, 1) := by decide +kernel
theorem dX2_rebuilt_30 : decode cX2_rebuilt 30 = .ok (.iinc 1 1, 3) := by decide +kernel
theorem dX2_rebuilt_33 : decode cX2_rebuilt 33 = .ok (.goto (-31), 3) := by decide +kernel
theorem dX2_rebuilt_36 : decode cX2_rebuilt 36 = .ok (.bipush (-9), 2) := by decide +kernel
theorem dX2_rebuilt_38 : decode cX2_rebuilt 38 = .ok (.ireturn, 1) := by decide +kernel
theorem dX2_rebuild_0 : decode cX2_rebuild 0 = .ok (.iload_n 1, 1) := by decide +kernel
theorem dX2_rebuild_1 : decode cX2_rebuild 1 = .ok (.iconst 0, 1) := by decide +kernel
theorem dX2_rebuild_2 : decode cX2_rebuild 2 = .ok (.iconst 1, 1) := by decide +kernel
theorem dX2_rebuild_3 : decode cX2_rebuild 3 = .ok (.invokestatic 40, 3) := by decide +kernel
theorem dX2_rebuild_6 : decode cX2_rebuild 6 = .ok (.ifCond .ne 10, 3) := by decide +kernel
theorem dX2_rebuild_9 : decode cX2_rebuild 9 = .ok (.aload_n 0, 1) := by decide +kernel
theorem dX2_rebuild_10 : decode cX2_rebuild 10 = .ok (.bipush (-2), 2) := by decide +kernel
theorem dX2_rebuild_12 : decode cX2_rebuild 12 = .ok (.invokevirtual 36, 3) := by decide +kernel
theorem dX2_rebuild_15 : decode cX2_rebuild 15 = .ok (.ireturn, 1) := by decide +kernel
theorem dX2_rebuild_16 : decode cX2_rebuild 16 = .ok (.iload_n 1, 1) := by decide +kernel
theorem dX2_rebuild_17 : decode cX2_rebuild 17 = .ok (.ifCond .ne 11, 3) := by decide +kernel
theorem dX2_rebuild_20 : decode cX2_rebuild 20 = .ok (.aload_n 0, 1) := by decide +kernel
theorem dX2_rebuild_21 : decode cX2_rebuild 21 = .ok (.getfield 9, 3) := by decide +kernel
theorem dX2_rebuild_24 : decode cX2_rebuild 24 = .ok (.invokestatic 161, 3) := by decide +kernel
theorem dX2_rebuild_27 : decode cX2_rebuild 27 = .ok (.ireturn, 1) := by decide +kernel
theorem dX2_rebuild_28 : decode cX2_rebuild 28 = .ok (.aload_n 0, 1) := by decide +kernel
theorem dX2_rebuild_29 : decode cX2_rebuild 29 = .ok (.getfield 9, 3) := by decide +kernel
theorem dX2_rebuild_32 : decode cX2_rebuild 32 = .ok (.aload_n 0, 1) := by decide +kernel
theorem dX2_rebuild_33 : decode cX2_rebuild 33 = .ok (.getfield 13, 3) := by decide +kernel
theorem dX2_rebuild_36 : decode cX2_rebuild 36 = .ok (.invokestatic 121, 3) := by decide +kernel
theorem dX2_rebuild_39 : decode cX2_rebuild 39 = .ok (.iconst 0, 1) := by decide +kernel
theorem dX2_rebuild_40 : decode cX2_rebuild 40 = .ok (.istore_n 2, 1) := by decide +kernel
theorem dX2_rebuild_41 : decode cX2_rebuild 41 = .ok (.aload_n 0, 1) := by decide +kernel
theorem dX2_rebuild_42 : decode cX2_rebuild 42 = .ok (.getfield 13, 3) := by decide +kernel
theorem dX2_rebuild_45 : decode cX2_rebuild 45 = .ok (.invokestatic 161, 3) := by decide +kernel
theorem dX2_rebuild_48 : decode cX2_rebuild 48 = .ok (.istore_n 3, 1) := by decide +kernel
theorem dX2_rebuild_49 : decode cX2_rebuild 49 = .ok (.iload_n 3, 1) := by decide +kernel
theorem dX2_rebuild_50 : decode cX2_rebuild 50 = .ok (.ifCond .lt 28, 3) := by decide +kernel
theorem dX2_rebuild_53 : decode cX2_rebuild 53 = .ok (.aload_n 0, 1) := by decide +kernel
theorem dX2_rebuild_54 : decode cX2_rebuild 54 = .ok (.getfield 13, 3) := by decide +kernel
theorem dX2_rebuild_57 : decode cX2_rebuild 57 = .ok (.iload_n 3, 1) := by decide +kernel
theorem dX2_rebuild_58 : decode cX2_rebuild 58 = .ok (.iconst 3, 1) := by decide +kernel
theorem dX2_rebuild_59 : decode cX2_rebuild 59 = .ok (.invokestatic 44, 3) := by decide +kernel
theorem dX2_rebuild_62 : decode cX2_rebuild 62 = .ok (.iconst 0, 1) := by decide +kernel
theorem dX2_rebuild_63 : decode cX2_rebuild 63 = .ok (.iastore, 1) := by decide +kernel
theorem dX2_rebuild_64 : decode cX2_rebuild 64 = .ok (.iinc 2 1, 3) := by decide +kernel
theorem dX2_rebuild_67 : decode cX2_rebuild 67 = .ok (.aload_n 0, 1) := by decide +kernel
theorem dX2_rebuild_68 : decode cX2_rebuild 68 = .ok (.getfield 13, 3) := by decide +kernel
theorem dX2_rebuild_71 : decode cX2_rebuild 71 = .ok (.invokestatic 161, 3) := by decide +kernel
theorem dX2_rebuild_74 : decode cX2_rebuild 74 = .ok (.istore_n 3, 1) := by decide +kernel
theorem dX2_rebuild_75 : decode cX2_rebuild 75 = .ok (.goto (-26), 3) := by decide +kernel
theorem dX2_rebuild_78 : decode cX2_rebuild 78 = .ok (.iload_n 2, 1) := by decide +kernel
theorem dX2_rebuild_79 : decode cX2_rebuild 79 = .ok (.ireturn, 1) := by decide +kernel
theorem dX2_gcd_0 : decode cX2_gcd 0 = .ok (.lload_n 0, 1) := by decide +kernel
theorem dX2_gcd_1 : decode cX2_gcd 1 = .ok (.lstore 4, 2) := by decide +kernel
theorem dX2_gcd_3 : decode cX2_gcd 3 = .ok (.lload_n 2, 1) := by decide +kernel
theorem dX2_gcd_4 : decode cX2_gcd 4 = .ok (.lstore 6, 2) := by decide +kernel
theorem dX2_gcd_6 : decode cX2_gcd 6 = .ok (.lload 6, 2) := by decide +kernel
theorem dX2_gcd_8 : decode cX2_gcd 8 = .ok (.lconst 0, 1) := by decide +kernel
theorem dX2_gcd_9 : decode cX2_gcd 9 = .ok (.lcmp, 1) := by decide +kernel
theorem dX2_gcd_10 : decode cX2_gcd 10 = .ok (.ifCond .eq 21, 3) := by decide +kernel
theorem dX2_gcd_13 : decode cX2_gcd 13 = .ok (.lload 4, 2) := by decide +kernel
theorem dX2_gcd_15 : decode cX2_gcd 15 = .ok (.lload 6, 2) := by decide +kernel
theorem dX2_gcd_17 : decode cX2_gcd 17 = .ok (.lrem, 1) := by decide +kernel
theorem dX2_gcd_18 : decode cX2_gcd 18 = .ok (.lstore 8, 2) := by decide +kernel
theorem dX2_gcd_20 : decode cX2_gcd 20 = .ok (.lload 6, 2) := by decide +kernel
theorem dX2_gcd_22 : decode cX2_gcd 22 = .ok (.lstore 4, 2) := by decide +kernel
theorem dX2_gcd_24 : decode cX2_gcd 24 = .ok (.lload 8, 2) := by decide +kernel
theorem dX2_gcd_26 : decode cX2_gcd 26 = .ok (.lstore 6, 2) := by decide +kernel
theorem dX2_gcd_28 : decode cX2_gcd 28 = .ok (.goto (-22), 3) := by decide +kernel
theorem dX2_gcd_31 : decode cX2_gcd 31 = .ok (.lload 4, 2) := by decide +kernel
theorem dX2_gcd_33 : decode cX2_gcd 33 = .ok (.lreturn, 1) := by decide +kernel
theorem dX2_partOf_0 : decode cX2_partOf 0 = .ok (.lload_n 0, 1) := by decide +kernel
theorem dX2_partOf_1 : decode cX2_partOf 1 = .ok (.lconst 0, 1) := by decide +kernel
theorem dX2_partOf_2 : decode cX2_partOf 2 = .ok (.lcmp, 1) := by decide +kernel
theorem dX2_partOf_3 : decode cX2_partOf 3 = .ok (.ifCond .ne 7, 3) := by decide +kernel
theorem dX2_partOf_6 : decode cX2_partOf 6 = .ok (.iload 4, 2) := by decide +kernel
theorem dX2_partOf_8 : decode cX2_partOf 8 = .ok (.i2l, 1) := by decide +kernel
theorem dX2_partOf_9 : decode cX2_partOf 9 = .ok (.lreturn, 1) := by decide +kernel
theorem dX2_partOf_10 : decode cX2_partOf 10 = .ok (.iload 4, 2) := by decide +kernel
theorem dX2_partOf_12 : decode cX2_partOf 12 = .ok (.ifCond .ne 7, 3) := by decide +kernel
theorem dX2_partOf_15 : decode cX2_partOf 15 = .ok (.lload_n 0, 1) := by decide +kernel
theorem dX2_partOf_16 : decode cX2_partOf 16 = .ok (.goto 4, 3) := by decide +kernel
theorem dX2_partOf_19 : decode cX2_partOf 19 = .ok (.lload_n 2, 1) := by decide +kernel
theorem dX2_partOf_20 : decode cX2_partOf 20 = .ok (.lload_n 0, 1) := by decide +kernel
theorem dX2_partOf_21 : decode cX2_partOf 21 = .ok (.lload_n 2, 1) := by decide +kernel
theorem dX2_partOf_22 : decode cX2_partOf 22 = .ok (.invokestatic 165, 3) := by decide +kernel
theorem dX2_partOf_25 : decode cX2_partOf 25 = .ok (.ldiv, 1) := by decide +kernel
theorem dX2_partOf_26 : decode cX2_partOf 26 = .ok (.lreturn, 1) := by decide +kernel
theorem dX2_draught_0 : decode cX2_draught 0 = .ok (.aload_n 0, 1) := by decide +kernel
theorem dX2_draught_1 : decode cX2_draught 1 = .ok (.iload_n 1, 1) := by decide +kernel
theorem dX2_draught_2 : decode cX2_draught 2 = .ok (.invokevirtual 105, 3) := by decide +kernel
theorem dX2_draught_5 : decode cX2_draught 5 = .ok (.ifCond .ne 9, 3) := by decide +kernel
theorem dX2_draught_8 : decode cX2_draught 8 = .ok (.aload_n 0, 1) := by decide +kernel
theorem dX2_draught_9 : decode cX2_draught 9 = .ok (.iconst (-1), 1) := by decide +kernel
theorem dX2_draught_10 : decode cX2_draught 10 = .ok (.invokevirtual 169, 3) := by decide +kernel
theorem dX2_draught_13 : decode cX2_draught 13 = .ok (.lreturn, 1) := by decide +kernel
theorem dX2_draught_14 : decode cX2_draught 14 = .ok (.iload_n 2, 1) := by decide +kernel
theorem dX2_draught_15 : decode cX2_draught 15 = .ok (.ifCond .lt 8, 3) := by decide +kernel
theorem dX2_draught_18 : decode cX2_draught 18 = .ok (.iload_n 3, 1) := by decide +kernel
theorem dX2_draught_19 : decode cX2_draught 19 = .ok (.iconst 2, 1) := by decide +kernel
theorem dX2_draught_20 : decode cX2_draught 20 = .ok (.if_icmp .ge 10, 3) := by decide +kernel
theorem dX2_draught_23 : decode cX2_draught 23 = .ok (.aload_n 0, 1) := by decide +kernel
theorem dX2_draught_24 : decode cX2_draught 24 = .ok (.bipush (-4), 2) := by decide +kernel
theorem dX2_draught_26 : decode cX2_draught 26 = .ok (.invokevirtual 169, 3) := by decide +kernel
theorem dX2_draught_29 : decode cX2_draught 29 = .ok (.lreturn, 1) := by decide +kernel
theorem dX2_draught_30 : decode cX2_draught 30 = .ok (.iload_n 2, 1) := by decide +kernel
theorem dX2_draught_31 : decode cX2_draught 31 = .ok (.bipush 7, 2) := by decide +kernel
theorem dX2_draught_33 : decode cX2_draught 33 = .ok (.if_icmp .gt 9, 3) := by decide +kernel
theorem dX2_draught_36 : decode cX2_draught 36 = .ok (.iload_n 3, 1) := by decide +kernel
theorem dX2_draught_37 : decode cX2_draught 37 = .ok (.bipush 20, 2) := by decide +kernel
theorem dX2_draught_39 : decode cX2_draught 39 = .ok (.if_icmp .le 10, 3) := by decide +kernel
theorem dX2_draught_42 : decode cX2_draught 42 = .ok (.aload_n 0, 1) := by decide +kernel
theorem dX2_draught_43 : decode cX2_draught 43 = .ok (.bipush (-6), 2) := by decide +kernel
theorem dX2_draught_45 : decode cX2_draught 45 = .ok (.invokevirtual 169, 3) := by decide +kernel
theorem dX2_draught_48 : decode cX2_draught 48 = .ok (.lreturn, 1) := by decide +kernel
theorem dX2_draught_49 : decode cX2_draught 49 = .ok (.iload 4, 2) := by decide +kernel
theorem dX2_draught_51 : decode cX2_draught 51 = .ok (.iconst 0, 1) := by decide +kernel
theorem dX2_draught_52 : decode cX2_draught 52 = .ok (.iconst 1, 1) := by decide +kernel
theorem dX2_draught_53 : decode cX2_draught 53 = .ok (.invokestatic 40, 3) := by decide +kernel
theorem dX2_draught_56 : decode cX2_draught 56 = .ok (.ifCond .ne 10, 3) := by decide +kernel
theorem dX2_draught_59 : decode cX2_draught 59 = .ok (.aload_n 0, 1) := by decide +kernel
theorem dX2_draught_60 : decode cX2_draught 60 = .ok (.bipush (-2), 2) := by decide +kernel
theorem dX2_draught_62 : decode cX2_draught 62 = .ok (.invokevirtual 169, 3) := by decide +kernel
theorem dX2_draught_65 : decode cX2_draught 65 = .ok (.lreturn, 1) := by decide +kernel
theorem dX2_draught_66 : decode cX2_draught 66 = .ok (.lconst 0, 1) := by decide +kernel
theorem dX2_draught_67 : decode cX2_draught 67 = .ok (.lstore 5, 2) := by decide +kernel
theorem dX2_draught_69 : decode cX2_draught 69 = .ok (.lconst 1, 1) := by decide +kernel
theorem dX2_draught_70 : decode cX2_draught 70 = .ok (.lstore 7, 2) := by decide +kernel
theorem dX2_draught_72 : decode cX2_draught 72 = .ok (.iconst 0, 1) := by decide +kernel
theorem dX2_draught_73 : decode cX2_draught 73 = .ok (.istore 9, 2) := by decide +kernel
theorem dX2_draught_75 : decode cX2_draught 75 = .ok (.iload 9, 2) := by decide +kernel
theorem dX2_draught_77 : decode cX2_draught 77 = .ok (.iload_n 2, 1) := by decide +kernel
theorem dX2_draught_78 : decode cX2_draught 78 = .ok (.if_icmp .ge 16, 3) := by decide +kernel
theorem dX2_draught_81 : decode cX2_draught 81 = .ok (.lload 7, 2) := by decide +kernel
theorem dX2_draught_83 : decode cX2_draught 83 = .ok (.iload_n 3, 1) := by decide +kernel
theorem dX2_draught_84 : decode cX2_draught 84 = .ok (.i2l, 1) := by decide +kernel
theorem dX2_draught_85 : decode cX2_draught 85 = .ok (.lmul, 1) := by decide +kernel
theorem dX2_draught_86 : decode cX2_draught 86 = .ok (.lstore 7, 2) := by decide +kernel
theorem dX2_draught_88 : decode cX2_draught 88 = .ok (.iinc 9 1, 3) := by decide +kernel
theorem dX2_draught_91 : decode cX2_draught 91 = .ok (.goto (-16), 3) := by decide +kernel
theorem dX2_draught_94 : decode cX2_draught 94 = .ok (.iconst 0, 1) := by decide +kernel
theorem dX2_draught_95 : decode cX2_draught 95 = .ok (.istore 9, 2) := by decide +kernel
theorem dX2_draught_97 : decode cX2_draught 97 = .ok (.iload 9, 2) := by decide +kernel
theorem dX2_draught_99 : decode cX2_draught 99 = .ok (.iconst 1, 1) := by decide +kernel
theorem dX2_draught_100 : decode cX2_draught 100 = .ok (.iload_n 2, 1) := by decide +kernel
theorem dX2_draught_101 : decode cX2_draught 101 = .ok (.ishl, 1) := by decide +kernel
theorem dX2_draught_102 : decode cX2_draught 102 = .ok (.if_icmp .ge 97, 3) := by decide +kernel
theorem dX2_draught_105 : decode cX2_draught 105 = .ok (.lconst 1, 1) := by decide +kernel
theorem dX2_draught_106 : decode cX2_draught 106 = .ok (.lstore 10, 2) := by decide +kernel
theorem dX2_draught_108 : decode cX2_draught 108 = .ok (.aload_n 0, 1) := by decide +kernel
theorem dX2_draught_109 : decode cX2_draught 109 = .ok (.getfield 9, 3) := by decide +kernel
theorem dX2_draught_112 : decode cX2_draught 112 = .ok (.aload_n 0, 1) := by decide +kernel
theorem dX2_draught_113 : decode cX2_draught 113 = .ok (.getfield 13, 3) := by decide +kernel
theorem dX2_draught_116 : decode cX2_draught 116 = .ok (.invokestatic 121, 3) := by decide +kernel
theorem dX2_draught_119 : decode cX2_draught 119 = .ok (.iconst 0, 1) := by decide +kernel
theorem dX2_draught_120 : decode cX2_draught 120 = .ok (.istore 12, 2) := by decide +kernel
theorem dX2_draught_122 : decode cX2_draught 122 = .ok (.iload 12, 2) := by decide +kernel
theorem dX2_draught_124 : decode cX2_draught 124 = .ok (.iload_n 2, 1) := by decide +kernel
theorem dX2_draught_125 : decode cX2_draught 125 = .ok (.if_icmp .ge 46, 3) := by decide +kernel
theorem dX2_draught_128 : decode cX2_draught 128 = .ok (.lload 10, 2) := by decide +kernel
theorem dX2_draught_130 : decode cX2_draught 130 = .ok (.iload 9, 2) := by decide +kernel
theorem dX2_draught_132 : decode cX2_draught 132 = .ok (.iload 12, 2) := by decide +kernel
theorem dX2_draught_134 : decode cX2_draught 134 = .ok (.invokestatic 51, 3) := by decide +kernel
theorem dX2_draught_137 : decode cX2_draught 137 = .ok (.ifCond .eq 7, 3) := by decide +kernel
theorem dX2_draught_140 : decode cX2_draught 140 = .ok (.lconst 1, 1) := by decide +kernel
theorem dX2_draught_141 : decode cX2_draught 141 = .ok (.goto 7, 3) := by decide +kernel
theorem dX2_draught_144 : decode cX2_draught 144 = .ok (.iload_n 3, 1) := by decide +kernel
theorem dX2_draught_145 : decode cX2_draught 145 = .ok (.iconst 1, 1) := by decide +kernel
theorem dX2_draught_146 : decode cX2_draught 146 = .ok (.isub, 1) := by decide +kernel
theorem dX2_draught_147 : decode cX2_draught 147 = .ok (.i2l, 1) := by decide +kernel
theorem dX2_draught_148 : decode cX2_draught 148 = .ok (.lmul, 1) := by decide +kernel
theorem dX2_draught_149 : decode cX2_draught 149 = .ok (.lstore 10, 2) := by decide +kernel
theorem dX2_draught_151 : decode cX2_draught 151 = .ok (.aload_n 0, 1) := by decide +kernel
theorem dX2_draught_152 : decode cX2_draught 152 = .ok (.getfield 13, 3) := by decide +kernel
theorem dX2_draught_155 : decode cX2_draught 155 = .ok (.iload 9, 2) := by decide +kernel
theorem dX2_draught_157 : decode cX2_draught 157 = .ok (.iload 12, 2) := by decide +kernel
theorem dX2_draught_159 : decode cX2_draught 159 = .ok (.ishr, 1) := by decide +kernel
theorem dX2_draught_160 : decode cX2_draught 160 = .ok (.iconst 1, 1) := by decide +kernel
theorem dX2_draught_161 : decode cX2_draught 161 = .ok (.iand, 1) := by decide +kernel
theorem dX2_draught_162 : decode cX2_draught 162 = .ok (.invokestatic 80, 3) := by decide +kernel
theorem dX2_draught_165 : decode cX2_draught 165 = .ok (.iinc 12 1, 3) := by decide +kernel
theorem dX2_draught_168 : decode cX2_draught 168 = .ok (.goto (-46), 3) := by decide +kernel
theorem dX2_draught_171 : decode cX2_draught 171 = .ok (.lload 5, 2) := by decide +kernel
theorem dX2_draught_173 : decode cX2_draught 173 = .ok (.aload_n 0, 1) := by decide +kernel
theorem dX2_draught_174 : decode cX2_draught 174 = .ok (.getfield 13, 3) := by decide +kernel
theorem dX2_draught_177 : decode cX2_draught 177 = .ok (.iload_n 1, 1) := by decide +kernel
theorem dX2_draught_178 : decode cX2_draught 178 = .ok (.invokestatic 55, 3) := by decide +kernel
theorem dX2_draught_181 : decode cX2_draught 181 = .ok (.ifCond .eq 8, 3) := by decide +kernel
theorem dX2_draught_184 : decode cX2_draught 184 = .ok (.lload 10, 2) := by decide +kernel
theorem dX2_draught_186 : decode cX2_draught 186 = .ok (.goto 4, 3) := by decide +kernel
theorem dX2_draught_189 : decode cX2_draught 189 = .ok (.lconst 0, 1) := by decide +kernel
theorem dX2_draught_190 : decode cX2_draught 190 = .ok (.ladd, 1) := by decide +kernel
theorem dX2_draught_191 : decode cX2_draught 191 = .ok (.lstore 5, 2) := by decide +kernel
theorem dX2_draught_193 : decode cX2_draught 193 = .ok (.iinc 9 1, 3) := by decide +kernel
theorem dX2_draught_196 : decode cX2_draught 196 = .ok (.goto (-99), 3) := by decide +kernel
theorem dX2_draught_199 : decode cX2_draught 199 = .ok (.lload 5, 2) := by decide +kernel
theorem dX2_draught_201 : decode cX2_draught 201 = .ok (.lload 7, 2) := by decide +kernel
theorem dX2_draught_203 : decode cX2_draught 203 = .ok (.iload 4, 2) := by decide +kernel
theorem dX2_draught_205 : decode cX2_draught 205 = .ok (.invokestatic 173, 3) := by decide +kernel
theorem dX2_draught_208 : decode cX2_draught 208 = .ok (.lreturn, 1) := by decide +kernel
theorem dX2_standingPulled_0 : decode cX2_standingPulled 0 = .ok (.aload_n 0, 1) := by decide +kernel
theorem dX2_standingPulled_1 : decode cX2_standingPulled 1 = .ok (.getfield 9, 3) := by decide +kernel
theorem dX2_standingPulled_4 : decode cX2_standingPulled 4 = .ok (.aload_n 0, 1) := by decide +kernel
theorem dX2_standingPulled_5 : decode cX2_standingPulled 5 = .ok (.getfield 13, 3) := by decide +kernel
theorem dX2_standingPulled_8 : decode cX2_standingPulled 8 = .ok (.invokestatic 121, 3) := by decide +kernel
theorem dX2_standingPulled_11 : decode cX2_standingPulled 11 = .ok (.iload_n 2, 1) := by decide +kernel
theorem dX2_standingPulled_12 : decode cX2_standingPulled 12 = .ok (.iconst 1, 1) := by decide +kernel
theorem dX2_standingPulled_13 : decode cX2_standingPulled 13 = .ok (.if_icmp .ne 27, 3) := by decide +kernel
theorem dX2_standingPulled_16 : decode cX2_standingPulled 16 = .ok (.aload_n 0, 1) := by decide +kernel
theorem dX2_standingPulled_17 : decode cX2_standingPulled 17 = .ok (.getfield 13, 3) := by decide +kernel
theorem dX2_standingPulled_20 : decode cX2_standingPulled 20 = .ok (.iload_n 1, 1) := by decide +kernel
theorem dX2_standingPulled_21 : decode cX2_standingPulled 21 = .ok (.invokestatic 55, 3) := by decide +kernel
theorem dX2_standingPulled_24 : decode cX2_standingPulled 24 = .ok (.ifCond .eq 16, 3) := by decide +kernel
theorem dX2_standingPulled_27 : decode cX2_standingPulled 27 = .ok (.aload_n 0, 1) := by decide +kernel
theorem dX2_standingPulled_28 : decode cX2_standingPulled 28 = .ok (.getfield 13, 3) := by decide +kernel
theorem dX2_standingPulled_31 : decode cX2_standingPulled 31 = .ok (.iload_n 1, 1) := by decide +kernel
theorem dX2_standingPulled_32 : decode cX2_standingPulled 32 = .ok (.bipush 9, 2) := by decide +kernel
theorem dX2_standingPulled_34 : decode cX2_standingPulled 34 = .ok (.invokestatic 112, 3) := by decide +kernel
theorem dX2_standingPulled_37 : decode cX2_standingPulled 37 = .ok (.goto 4, 3) := by decide +kernel
theorem dX2_standingPulled_40 : decode cX2_standingPulled 40 = .ok (.iconst 0, 1) := by decide +kernel
theorem dX2_standingPulled_41 : decode cX2_standingPulled 41 = .ok (.istore 6, 2) := by decide +kernel
theorem dX2_standingPulled_43 : decode cX2_standingPulled 43 = .ok (.iload 4, 2) := by decide +kernel
theorem dX2_standingPulled_45 : decode cX2_standingPulled 45 = .ok (.iconst 1, 1) := by decide +kernel
theorem dX2_standingPulled_46 : decode cX2_standingPulled 46 = .ok (.if_icmp .ne 27, 3) := by decide +kernel
theorem dX2_standingPulled_49 : decode cX2_standingPulled 49 = .ok (.aload_n 0, 1) := by decide +kernel
theorem dX2_standingPulled_50 : decode cX2_standingPulled 50 = .ok (.getfield 13, 3) := by decide +kernel
theorem dX2_standingPulled_53 : decode cX2_standingPulled 53 = .ok (.iload_n 3, 1) := by decide +kernel
theorem dX2_standingPulled_54 : decode cX2_standingPulled 54 = .ok (.invokestatic 55, 3) := by decide +kernel
theorem dX2_standingPulled_57 : decode cX2_standingPulled 57 = .ok (.ifCond .eq 16, 3) := by decide +kernel
theorem dX2_standingPulled_60 : decode cX2_standingPulled 60 = .ok (.aload_n 0, 1) := by decide +kernel
theorem dX2_standingPulled_61 : decode cX2_standingPulled 61 = .ok (.getfield 13, 3) := by decide +kernel
theorem dX2_standingPulled_64 : decode cX2_standingPulled 64 = .ok (.iload_n 3, 1) := by decide +kernel
theorem dX2_standingPulled_65 : decode cX2_standingPulled 65 = .ok (.bipush 9, 2) := by decide +kernel
theorem dX2_standingPulled_67 : decode cX2_standingPulled 67 = .ok (.invokestatic 112, 3) := by decide +kernel
theorem dX2_standingPulled_70 : decode cX2_standingPulled 70 = .ok (.goto 4, 3) := by decide +kernel
theorem dX2_standingPulled_73 : decode cX2_standingPulled 73 = .ok (.iconst 0, 1) := by decide +kernel
theorem dX2_standingPulled_74 : decode cX2_standingPulled 74 = .ok (.istore 7, 2) := by decide +kernel
theorem dX2_standingPulled_76 : decode cX2_standingPulled 76 = .ok (.aload_n 0, 1) := by decide +kernel
theorem dX2_standingPulled_77 : decode cX2_standingPulled 77 = .ok (.getfield 13, 3) := by decide +kernel
theorem dX2_standingPulled_80 : decode cX2_standingPulled 80 = .ok (.iload 5, 2) := by decide +kernel
theorem dX2_standingPulled_82 : decode cX2_standingPulled 82 = .ok (.invokestatic 115, 3) := by decide +kernel
theorem dX2_standingPulled_85 : decode cX2_standingPulled 85 = .ok (.aload_n 0, 1) := by decide +kernel
theorem dX2_standingPulled_86 : decode cX2_standingPulled 86 = .ok (.invokevirtual 138, 3) := by decide +kernel
theorem dX2_standingPulled_89 : decode cX2_standingPulled 89 = .ok (.ireturn, 1) := by decide +kernel
theorem dX2_two_0 : decode cX2_two 0 = .ok (.aload_n 0, 1) := by decide +kernel
theorem dX2_two_1 : decode cX2_two 1 = .ok (.iload_n 1, 1) := by decide +kernel
theorem dX2_two_2 : decode cX2_two 2 = .ok (.invokevirtual 105, 3) := by decide +kernel
theorem dX2_two_5 : decode cX2_two 5 = .ok (.ifCond .eq 16, 3) := by decide +kernel
theorem dX2_two_8 : decode cX2_two 8 = .ok (.aload_n 0, 1) := by decide +kernel
theorem dX2_two_9 : decode cX2_two 9 = .ok (.iload_n 2, 1) := by decide +kernel
theorem dX2_two_10 : decode cX2_two 10 = .ok (.invokevirtual 105, 3) := by decide +kernel
theorem dX2_two_13 : decode cX2_two 13 = .ok (.ifCond .eq 8, 3) := by decide +kernel
theorem dX2_two_16 : decode cX2_two 16 = .ok (.iload_n 1, 1) := by decide +kernel
theorem dX2_two_17 : decode cX2_two 17 = .ok (.iload_n 2, 1) := by decide +kernel
theorem dX2_two_18 : decode cX2_two 18 = .ok (.if_icmp .ne 7, 3) := by decide +kernel
theorem dX2_two_21 : decode cX2_two 21 = .ok (.iconst (-1), 1) := by decide +kernel
theorem dX2_two_22 : decode cX2_two 22 = .ok (.goto 9, 3) := by decide +kernel
theorem dX2_two_25 : decode cX2_two 25 = .ok (.iload_n 3, 1) := by decide +kernel
theorem dX2_two_26 : decode cX2_two 26 = .ok (.bipush 99, 2) := by decide +kernel
theorem dX2_two_28 : decode cX2_two 28 = .ok (.invokestatic 128, 3) := by decide +kernel
theorem dX2_two_31 : decode cX2_two 31 = .ok (.istore 4, 2) := by decide +kernel
theorem dX2_two_33 : decode cX2_two 33 = .ok (.iload 4, 2) := by decide +kernel
theorem dX2_two_35 : decode cX2_two 35 = .ok (.ifCond .eq 10, 3) := by decide +kernel
theorem dX2_two_38 : decode cX2_two 38 = .ok (.aload_n 0, 1) := by decide +kernel
theorem dX2_two_39 : decode cX2_two 39 = .ok (.iload 4, 2) := by decide +kernel
theorem dX2_two_41 : decode cX2_two 41 = .ok (.invokevirtual 36, 3) := by decide +kernel
theorem dX2_two_44 : decode cX2_two 44 = .ok (.ireturn, 1) := by decide +kernel
theorem dX2_two_45 : decode cX2_two 45 = .ok (.iconst 0, 1) := by decide +kernel
theorem dX2_two_46 : decode cX2_two 46 = .ok (.istore 5, 2) := by decide +kernel
theorem dX2_two_48 : decode cX2_two 48 = .ok (.iload 5, 2) := by decide +kernel
theorem dX2_two_50 : decode cX2_two 50 = .ok (.iconst 4, 1) := by decide +kernel
theorem dX2_two_51 : decode cX2_two 51 = .ok (.if_icmp .ge 79, 3) := by decide +kernel
theorem dX2_two_54 : decode cX2_two 54 = .ok (.iload 5, 2) := by decide +kernel
theorem dX2_two_56 : decode cX2_two 56 = .ok (.iconst 2, 1) := by decide +kernel
theorem dX2_two_57 : decode cX2_two 57 = .ok (.idiv, 1) := by decide +kernel
theorem dX2_two_58 : decode cX2_two 58 = .ok (.istore 6, 2) := by decide +kernel
theorem dX2_two_60 : decode cX2_two 60 = .ok (.iload 5, 2) := by decide +kernel
theorem dX2_two_62 : decode cX2_two 62 = .ok (.iconst 2, 1) := by decide +kernel
theorem dX2_two_63 : decode cX2_two 63 = .ok (.irem, 1) := by decide +kernel
theorem dX2_two_64 : decode cX2_two 64 = .ok (.istore 7, 2) := by decide +kernel
theorem dX2_two_66 : decode cX2_two 66 = .ok (.aload_n 0, 1) := by decide +kernel
theorem dX2_two_67 : decode cX2_two 67 = .ok (.iload_n 1, 1) := by decide +kernel
theorem dX2_two_68 : decode cX2_two 68 = .ok (.iload 6, 2) := by decide +kernel
theorem dX2_two_70 : decode cX2_two 70 = .ok (.iload_n 2, 1) := by decide +kernel
theorem dX2_two_71 : decode cX2_two 71 = .ok (.iload 7, 2) := by decide +kernel
theorem dX2_two_73 : decode cX2_two 73 = .ok (.iload_n 3, 1) := by decide +kernel
theorem dX2_two_74 : decode cX2_two 74 = .ok (.invokevirtual 177, 3) := by decide +kernel
theorem dX2_two_77 : decode cX2_two 77 = .ok (.istore 8, 2) := by decide +kernel
theorem dX2_two_79 : decode cX2_two 79 = .ok (.aload_n 0, 1) := by decide +kernel
theorem dX2_two_80 : decode cX2_two 80 = .ok (.iload_n 1, 1) := by decide +kernel
theorem dX2_two_81 : decode cX2_two 81 = .ok (.iconst 1, 1) := by decide +kernel
theorem dX2_two_82 : decode cX2_two 82 = .ok (.iload 6, 2) := by decide +kernel
theorem dX2_two_84 : decode cX2_two 84 = .ok (.isub, 1) := by decide +kernel
theorem dX2_two_85 : decode cX2_two 85 = .ok (.iload_n 2, 1) := by decide +kernel
theorem dX2_two_86 : decode cX2_two 86 = .ok (.iload 7, 2) := by decide +kernel
theorem dX2_two_88 : decode cX2_two 88 = .ok (.iload_n 3, 1) := by decide +kernel
theorem dX2_two_89 : decode cX2_two 89 = .ok (.invokevirtual 177, 3) := by decide +kernel
theorem dX2_two_92 : decode cX2_two 92 = .ok (.iload 8, 2) := by decide +kernel
theorem dX2_two_94 : decode cX2_two 94 = .ok (.if_icmp .gt 30, 3) := by decide +kernel
theorem dX2_two_97 : decode cX2_two 97 = .ok (.aload_n 0, 1) := by decide +kernel
theorem dX2_two_98 : decode cX2_two 98 = .ok (.iload_n 1, 1) := by decide +kernel
theorem dX2_two_99 : decode cX2_two 99 = .ok (.iload 6, 2) := by decide +kernel
theorem dX2_two_101 : decode cX2_two 101 = .ok (.iload_n 2, 1) := by decide +kernel
theorem dX2_two_102 : decode cX2_two 102 = .ok (.iconst 1, 1) := by decide +kernel
theorem dX2_two_103 : decode cX2_two 103 = .ok (.iload 7, 2) := by decide +kernel
theorem dX2_two_105 : decode cX2_two 105 = .ok (.isub, 1) := by decide +kernel
theorem dX2_two_106 : decode cX2_two 106 = .ok (.iload_n 3, 1) := by decide +kernel
theorem dX2_two_107 : decode cX2_two 107 = .ok (.invokevirtual 177, 3) := by decide +kernel
theorem dX2_two_110 : decode cX2_two 110 = .ok (.iload 8, 2) := by decide +kernel
theorem dX2_two_112 : decode cX2_two 112 = .ok (.if_icmp .lt 12, 3) := by decide +kernel
theorem dX2_two_115 : decode cX2_two 115 = .ok (.bipush 10, 2) := by decide +kernel
theorem dX2_two_117 : decode cX2_two 117 = .ok (.iload 6, 2) := by decide +kernel
theorem dX2_two_119 : decode cX2_two 119 = .ok (.imul, 1) := by decide +kernel
theorem dX2_two_120 : decode cX2_two 120 = .ok (.iload 7, 2) := by decide +kernel
theorem dX2_two_122 : decode cX2_two 122 = .ok (.iadd, 1) := by decide +kernel
theorem dX2_two_123 : decode cX2_two 123 = .ok (.ireturn, 1) := by decide +kernel
theorem dX2_two_124 : decode cX2_two 124 = .ok (.iinc 5 1, 3) := by decide +kernel
theorem dX2_two_127 : decode cX2_two 127 = .ok (.goto (-79), 3) := by decide +kernel
theorem dX2_two_130 : decode cX2_two 130 = .ok (.bipush (-9), 2) := by decide +kernel
theorem dX2_two_132 : decode cX2_two 132 = .ok (.ireturn, 1) := by decide +kernel
theorem dX2_whatWas_0 : decode cX2_whatWas 0 = .ok (.aload_n 0, 1) := by decide +kernel
theorem dX2_whatWas_1 : decode cX2_whatWas 1 = .ok (.iload_n 1, 1) := by decide +kernel
theorem dX2_whatWas_2 : decode cX2_whatWas 2 = .ok (.invokevirtual 105, 3) := by decide +kernel
theorem dX2_whatWas_5 : decode cX2_whatWas 5 = .ok (.ifCond .ne 7, 3) := by decide +kernel
theorem dX2_whatWas_8 : decode cX2_whatWas 8 = .ok (.iconst (-1), 1) := by decide +kernel
theorem dX2_whatWas_9 : decode cX2_whatWas 9 = .ok (.goto 36, 3) := by decide +kernel
theorem dX2_whatWas_12 : decode cX2_whatWas 12 = .ok (.iload_n 2, 1) := by decide +kernel
theorem dX2_whatWas_13 : decode cX2_whatWas 13 = .ok (.iconst 0, 1) := by decide +kernel
theorem dX2_whatWas_14 : decode cX2_whatWas 14 = .ok (.iconst 1, 1) := by decide +kernel
theorem dX2_whatWas_15 : decode cX2_whatWas 15 = .ok (.invokestatic 40, 3) := by decide +kernel
theorem dX2_whatWas_18 : decode cX2_whatWas 18 = .ok (.ifCond .ne 8, 3) := by decide +kernel
theorem dX2_whatWas_21 : decode cX2_whatWas 21 = .ok (.bipush (-2), 2) := by decide +kernel
theorem dX2_whatWas_23 : decode cX2_whatWas 23 = .ok (.goto 22, 3) := by decide +kernel
theorem dX2_whatWas_26 : decode cX2_whatWas 26 = .ok (.aload_n 0, 1) := by decide +kernel
theorem dX2_whatWas_27 : decode cX2_whatWas 27 = .ok (.getfield 181, 3) := by decide +kernel
theorem dX2_whatWas_30 : decode cX2_whatWas 30 = .ok (.aload_n 0, 1) := by decide +kernel
theorem dX2_whatWas_31 : decode cX2_whatWas 31 = .ok (.getfield 9, 3) := by decide +kernel
theorem dX2_whatWas_34 : decode cX2_whatWas 34 = .ok (.iconst 0, 1) := by decide +kernel
theorem dX2_whatWas_35 : decode cX2_whatWas 35 = .ok (.iaload, 1) := by decide +kernel
theorem dX2_whatWas_36 : decode cX2_whatWas 36 = .ok (.if_icmp .eq 8, 3) := by decide +kernel
theorem dX2_whatWas_39 : decode cX2_whatWas 39 = .ok (.bipush (-3), 2) := by decide +kernel
theorem dX2_whatWas_41 : decode cX2_whatWas 41 = .ok (.goto 4, 3) := by decide +kernel
theorem dX2_whatWas_44 : decode cX2_whatWas 44 = .ok (.iconst 0, 1) := by decide +kernel
theorem dX2_whatWas_45 : decode cX2_whatWas 45 = .ok (.istore_n 3, 1) := by decide +kernel
theorem dX2_whatWas_46 : decode cX2_whatWas 46 = .ok (.iload_n 3, 1) := by decide +kernel
theorem dX2_whatWas_47 : decode cX2_whatWas 47 = .ok (.ifCond .eq 9, 3) := by decide +kernel
theorem dX2_whatWas_50 : decode cX2_whatWas 50 = .ok (.aload_n 0, 1) := by decide +kernel
theorem dX2_whatWas_51 : decode cX2_whatWas 51 = .ok (.iload_n 3, 1) := by decide +kernel
theorem dX2_whatWas_52 : decode cX2_whatWas 52 = .ok (.invokevirtual 36, 3) := by decide +kernel
theorem dX2_whatWas_55 : decode cX2_whatWas 55 = .ok (.ireturn, 1) := by decide +kernel
theorem dX2_whatWas_56 : decode cX2_whatWas 56 = .ok (.iconst 0, 1) := by decide +kernel
theorem dX2_whatWas_57 : decode cX2_whatWas 57 = .ok (.istore 4, 2) := by decide +kernel
theorem dX2_whatWas_59 : decode cX2_whatWas 59 = .ok (.iconst 0, 1) := by decide +kernel
theorem dX2_whatWas_60 : decode cX2_whatWas 60 = .ok (.istore 5, 2) := by decide +kernel
theorem dX2_whatWas_62 : decode cX2_whatWas 62 = .ok (.iload 5, 2) := by decide +kernel
theorem dX2_whatWas_64 : decode cX2_whatWas 64 = .ok (.iload_n 2, 1) := by decide +kernel
theorem dX2_whatWas_65 : decode cX2_whatWas 65 = .ok (.ifCond .ne 8, 3) := by decide +kernel
theorem dX2_whatWas_68 : decode cX2_whatWas 68 = .ok (.bipush 6, 2) := by decide +kernel
theorem dX2_whatWas_70 : decode cX2_whatWas 70 = .ok (.goto 5, 3) := by decide +kernel
theorem dX2_whatWas_73 : decode cX2_whatWas 73 = .ok (.bipush 10, 2) := by decide +kernel
theorem dX2_whatWas_75 : decode cX2_whatWas 75 = .ok (.if_icmp .ge 123, 3) := by decide +kernel
theorem dX2_whatWas_78 : decode cX2_whatWas 78 = .ok (.iconst 1, 1) := by decide +kernel
theorem dX2_whatWas_79 : decode cX2_whatWas 79 = .ok (.istore 6, 2) := by decide +kernel
theorem dX2_whatWas_81 : decode cX2_whatWas 81 = .ok (.iconst 0, 1) := by decide +kernel
theorem dX2_whatWas_82 : decode cX2_whatWas 82 = .ok (.istore 7, 2) := by decide +kernel
theorem dX2_whatWas_84 : decode cX2_whatWas 84 = .ok (.iload 7, 2) := by decide +kernel
theorem dX2_whatWas_86 : decode cX2_whatWas 86 = .ok (.aload_n 0, 1) := by decide +kernel
theorem dX2_whatWas_87 : decode cX2_whatWas 87 = .ok (.getfield 9, 3) := by decide +kernel
theorem dX2_whatWas_90 : decode cX2_whatWas 90 = .ok (.iconst 0, 1) := by decide +kernel
theorem dX2_whatWas_91 : decode cX2_whatWas 91 = .ok (.iaload, 1) := by decide +kernel
theorem dX2_whatWas_92 : decode cX2_whatWas 92 = .ok (.if_icmp .ge 82, 3) := by decide +kernel
theorem dX2_whatWas_95 : decode cX2_whatWas 95 = .ok (.iload 6, 2) := by decide +kernel
theorem dX2_whatWas_97 : decode cX2_whatWas 97 = .ok (.ifCond .eq 77, 3) := by decide +kernel
theorem dX2_whatWas_100 : decode cX2_whatWas 100 = .ok (.aload_n 0, 1) := by decide +kernel
theorem dX2_whatWas_101 : decode cX2_whatWas 101 = .ok (.getfield 9, 3) := by decide +kernel
theorem dX2_whatWas_104 : decode cX2_whatWas 104 = .ok (.aload_n 0, 1) := by decide +kernel
theorem dX2_whatWas_105 : decode cX2_whatWas 105 = .ok (.getfield 13, 3) := by decide +kernel
theorem dX2_whatWas_108 : decode cX2_whatWas 108 = .ok (.invokestatic 121, 3) := by decide +kernel
theorem dX2_whatWas_111 : decode cX2_whatWas 111 = .ok (.aload_n 0, 1) := by decide +kernel
theorem dX2_whatWas_112 : decode cX2_whatWas 112 = .ok (.getfield 13, 3) := by decide +kernel
theorem dX2_whatWas_115 : decode cX2_whatWas 115 = .ok (.iload_n 1, 1) := by decide +kernel
theorem dX2_whatWas_116 : decode cX2_whatWas 116 = .ok (.iload_n 2, 1) := by decide +kernel
theorem dX2_whatWas_117 : decode cX2_whatWas 117 = .ok (.ifCond .ne 7, 3) := by decide +kernel
theorem dX2_whatWas_120 : decode cX2_whatWas 120 = .ok (.iconst 0, 1) := by decide +kernel
theorem dX2_whatWas_121 : decode cX2_whatWas 121 = .ok (.goto 4, 3) := by decide +kernel
theorem dX2_whatWas_124 : decode cX2_whatWas 124 = .ok (.iconst 1, 1) := by decide +kernel
theorem dX2_whatWas_125 : decode cX2_whatWas 125 = .ok (.invokestatic 44, 3) := by decide +kernel
theorem dX2_whatWas_128 : decode cX2_whatWas 128 = .ok (.iload 5, 2) := by decide +kernel
theorem dX2_whatWas_130 : decode cX2_whatWas 130 = .ok (.iastore, 1) := by decide +kernel
theorem dX2_whatWas_131 : decode cX2_whatWas 131 = .ok (.aload_n 0, 1) := by decide +kernel
theorem dX2_whatWas_132 : decode cX2_whatWas 132 = .ok (.iload 7, 2) := by decide +kernel
theorem dX2_whatWas_134 : decode cX2_whatWas 134 = .ok (.invokevirtual 141, 3) := by decide +kernel
theorem dX2_whatWas_137 : decode cX2_whatWas 137 = .ok (.istore 8, 2) := by decide +kernel
theorem dX2_whatWas_139 : decode cX2_whatWas 139 = .ok (.iload 8, 2) := by decide +kernel
theorem dX2_whatWas_141 : decode cX2_whatWas 141 = .ok (.ifCond .ge 8, 3) := by decide +kernel
theorem dX2_whatWas_144 : decode cX2_whatWas 144 = .ok (.bipush 99, 2) := by decide +kernel
theorem dX2_whatWas_146 : decode cX2_whatWas 146 = .ok (.goto 5, 3) := by decide +kernel
theorem dX2_whatWas_149 : decode cX2_whatWas 149 = .ok (.iload 8, 2) := by decide +kernel
theorem dX2_whatWas_151 : decode cX2_whatWas 151 = .ok (.aload_n 0, 1) := by decide +kernel
theorem dX2_whatWas_152 : decode cX2_whatWas 152 = .ok (.getfield 25, 3) := by decide +kernel
theorem dX2_whatWas_155 : decode cX2_whatWas 155 = .ok (.iload 7, 2) := by decide +kernel
theorem dX2_whatWas_157 : decode cX2_whatWas 157 = .ok (.iaload, 1) := by decide +kernel
theorem dX2_whatWas_158 : decode cX2_whatWas 158 = .ok (.if_icmp .ne 7, 3) := by decide +kernel
theorem dX2_whatWas_161 : decode cX2_whatWas 161 = .ok (.iconst 1, 1) := by decide +kernel
theorem dX2_whatWas_162 : decode cX2_whatWas 162 = .ok (.goto 4, 3) := by decide +kernel
theorem dX2_whatWas_165 : decode cX2_whatWas 165 = .ok (.iconst 0, 1) := by decide +kernel
theorem dX2_whatWas_166 : decode cX2_whatWas 166 = .ok (.istore 6, 2) := by decide +kernel
theorem dX2_whatWas_168 : decode cX2_whatWas 168 = .ok (.iinc 7 1, 3) := by decide +kernel
theorem dX2_whatWas_171 : decode cX2_whatWas 171 = .ok (.goto (-87), 3) := by decide +kernel
theorem dX2_whatWas_174 : decode cX2_whatWas 174 = .ok (.iload 4, 2) := by decide +kernel
theorem dX2_whatWas_176 : decode cX2_whatWas 176 = .ok (.iload 6, 2) := by decide +kernel
theorem dX2_whatWas_178 : decode cX2_whatWas 178 = .ok (.ifCond .eq 10, 3) := by decide +kernel
theorem dX2_whatWas_181 : decode cX2_whatWas 181 = .ok (.iconst 1, 1) := by decide +kernel
theorem dX2_whatWas_182 : decode cX2_whatWas 182 = .ok (.iload 5, 2) := by decide +kernel
theorem dX2_whatWas_184 : decode cX2_whatWas 184 = .ok (.ishl, 1) := by decide +kernel
theorem dX2_whatWas_185 : decode cX2_whatWas 185 = .ok (.goto 4, 3) := by decide +kernel
theorem dX2_whatWas_188 : decode cX2_whatWas 188 = .ok (.iconst 0, 1) := by decide +kernel
theorem dX2_whatWas_189 : decode cX2_whatWas 189 = .ok (.ior, 1) := by decide +kernel
theorem dX2_whatWas_190 : decode cX2_whatWas 190 = .ok (.istore 4, 2) := by decide +kernel
theorem dX2_whatWas_192 : decode cX2_whatWas 192 = .ok (.iinc 5 1, 3) := by decide +kernel
theorem dX2_whatWas_195 : decode cX2_whatWas 195 = .ok (.goto (-133), 3) := by decide +kernel
theorem dX2_whatWas_198 : decode cX2_whatWas 198 = .ok (.iload 4, 2) := by decide +kernel
theorem dX2_whatWas_200 : decode cX2_whatWas 200 = .ok (.ireturn, 1) := by decide +kernel
theorem dX2_row_0 : decode cX2_row 0 = .ok (.iload_n 1, 1) := by decide +kernel
theorem dX2_row_1 : decode cX2_row 1 = .ok (.bipush 99, 2) := by decide +kernel
theorem dX2_row_3 : decode cX2_row 3 = .ok (.invokestatic 128, 3) := by decide +kernel
theorem dX2_row_6 : decode cX2_row 6 = .ok (.istore_n 2, 1) := by decide +kernel
theorem dX2_row_7 : decode cX2_row 7 = .ok (.iload_n 2, 1) := by decide +kernel
theorem dX2_row_8 : decode cX2_row 8 = .ok (.ifCond .ne 15, 3) := by decide +kernel
theorem dX2_row_11 : decode cX2_row 11 = .ok (.aload_n 0, 1) := by decide +kernel
theorem dX2_row_12 : decode cX2_row 12 = .ok (.getfield 181, 3) := by decide +kernel
theorem dX2_row_15 : decode cX2_row 15 = .ok (.bipush 16, 2) := by decide +kernel
theorem dX2_row_17 : decode cX2_row 17 = .ok (.if_icmp .ne 6, 3) := by decide +kernel
theorem dX2_row_20 : decode cX2_row 20 = .ok (.bipush (-6), 2) := by decide +kernel
theorem dX2_row_22 : decode cX2_row 22 = .ok (.istore_n 2, 1) := by decide +kernel
theorem dX2_row_23 : decode cX2_row 23 = .ok (.iload_n 2, 1) := by decide +kernel
theorem dX2_row_24 : decode cX2_row 24 = .ok (.ifCond .eq 9, 3) := by decide +kernel
theorem dX2_row_27 : decode cX2_row 27 = .ok (.aload_n 0, 1) := by decide +kernel
theorem dX2_row_28 : decode cX2_row 28 = .ok (.iload_n 2, 1) := by decide +kernel
theorem dX2_row_29 : decode cX2_row 29 = .ok (.invokevirtual 36, 3) := by decide +kernel
theorem dX2_row_32 : decode cX2_row 32 = .ok (.ireturn, 1) := by decide +kernel
theorem dX2_row_33 : decode cX2_row 33 = .ok (.aload_n 0, 1) := by decide +kernel
theorem dX2_row_34 : decode cX2_row 34 = .ok (.getfield 25, 3) := by decide +kernel
theorem dX2_row_37 : decode cX2_row 37 = .ok (.aload_n 0, 1) := by decide +kernel
theorem dX2_row_38 : decode cX2_row 38 = .ok (.getfield 181, 3) := by decide +kernel
theorem dX2_row_41 : decode cX2_row 41 = .ok (.iload_n 1, 1) := by decide +kernel
theorem dX2_row_42 : decode cX2_row 42 = .ok (.iastore, 1) := by decide +kernel
theorem dX2_row_43 : decode cX2_row 43 = .ok (.aload_n 0, 1) := by decide +kernel
theorem dX2_row_44 : decode cX2_row 44 = .ok (.dup, 1) := by decide +kernel
theorem dX2_row_45 : decode cX2_row 45 = .ok (.getfield 181, 3) := by decide +kernel
theorem dX2_row_48 : decode cX2_row 48 = .ok (.iconst 1, 1) := by decide +kernel
theorem dX2_row_49 : decode cX2_row 49 = .ok (.iadd, 1) := by decide +kernel
theorem dX2_row_50 : decode cX2_row 50 = .ok (.putfield 181, 3) := by decide +kernel
theorem dX2_row_53 : decode cX2_row 53 = .ok (.aload_n 0, 1) := by decide +kernel
theorem dX2_row_54 : decode cX2_row 54 = .ok (.getfield 181, 3) := by decide +kernel
theorem dX2_row_57 : decode cX2_row 57 = .ok (.ireturn, 1) := by decide +kernel
theorem dX2_judge_0 : decode cX2_judge 0 = .ok (.aload_n 0, 1) := by decide +kernel
theorem dX2_judge_1 : decode cX2_judge 1 = .ok (.getfield 181, 3) := by decide +kernel
theorem dX2_judge_4 : decode cX2_judge 4 = .ok (.istore_n 1, 1) := by decide +kernel
theorem dX2_judge_5 : decode cX2_judge 5 = .ok (.aload_n 0, 1) := by decide +kernel
theorem dX2_judge_6 : decode cX2_judge 6 = .ok (.iconst 0, 1) := by decide +kernel
theorem dX2_judge_7 : decode cX2_judge 7 = .ok (.putfield 181, 3) := by decide +kernel
theorem dX2_judge_10 : decode cX2_judge 10 = .ok (.aload_n 0, 1) := by decide +kernel
theorem dX2_judge_11 : decode cX2_judge 11 = .ok (.getfield 9, 3) := by decide +kernel
theorem dX2_judge_14 : decode cX2_judge 14 = .ok (.aload_n 0, 1) := by decide +kernel
theorem dX2_judge_15 : decode cX2_judge 15 = .ok (.getfield 13, 3) := by decide +kernel
theorem dX2_judge_18 : decode cX2_judge 18 = .ok (.invokestatic 121, 3) := by decide +kernel
theorem dX2_judge_21 : decode cX2_judge 21 = .ok (.iconst 0, 1) := by decide +kernel
theorem dX2_judge_22 : decode cX2_judge 22 = .ok (.istore_n 2, 1) := by decide +kernel
theorem dX2_judge_23 : decode cX2_judge 23 = .ok (.iload_n 2, 1) := by decide +kernel
theorem dX2_judge_24 : decode cX2_judge 24 = .ok (.iload_n 1, 1) := by decide +kernel
theorem dX2_judge_25 : decode cX2_judge 25 = .ok (.if_icmp .ge 32, 3) := by decide +kernel
theorem dX2_judge_28 : decode cX2_judge 28 = .ok (.aload_n 0, 1) := by decide +kernel
theorem dX2_judge_29 : decode cX2_judge 29 = .ok (.invokevirtual 138, 3) := by decide +kernel
theorem dX2_judge_32 : decode cX2_judge 32 = .ok (.aload_n 0, 1) := by decide +kernel
theorem dX2_judge_33 : decode cX2_judge 33 = .ok (.getfield 25, 3) := by decide +kernel
theorem dX2_judge_36 : decode cX2_judge 36 = .ok (.iload_n 2, 1) := by decide +kernel
theorem dX2_judge_37 : decode cX2_judge 37 = .ok (.iaload, 1) := by decide +kernel
theorem dX2_judge_38 : decode cX2_judge 38 = .ok (.if_icmp .eq 5, 3) := by decide +kernel
theorem dX2_judge_41 : decode cX2_judge 41 = .ok (.iload_n 2, 1) := by decide +kernel
theorem dX2_judge_42 : decode cX2_judge 42 = .ok (.ireturn, 1) := by decide +kernel
theorem dX2_judge_43 : decode cX2_judge 43 = .ok (.aload_n 0, 1) := by decide +kernel
theorem dX2_judge_44 : decode cX2_judge 44 = .ok (.getfield 13, 3) := by decide +kernel
theorem dX2_judge_47 : decode cX2_judge 47 = .ok (.iconst 0, 1) := by decide +kernel
theorem dX2_judge_48 : decode cX2_judge 48 = .ok (.invokestatic 80, 3) := by decide +kernel
theorem dX2_judge_51 : decode cX2_judge 51 = .ok (.iinc 2 1, 3) := by decide +kernel
theorem dX2_judge_54 : decode cX2_judge 54 = .ok (.goto (-31), 3) := by decide +kernel
theorem dX2_judge_57 : decode cX2_judge 57 = .ok (.bipush (-9), 2) := by decide +kernel
theorem dX2_judge_59 : decode cX2_judge 59 = .ok (.ireturn, 1) := by decide +kernel
theorem dX2_clear_0 : decode cX2_clear 0 = .ok (.aload_n 0, 1) := by decide +kernel
theorem dX2_clear_1 : decode cX2_clear 1 = .ok (.getfield 181, 3) := by decide +kernel
theorem dX2_clear_4 : decode cX2_clear 4 = .ok (.istore_n 1, 1) := by decide +kernel
theorem dX2_clear_5 : decode cX2_clear 5 = .ok (.aload_n 0, 1) := by decide +kernel
theorem dX2_clear_6 : decode cX2_clear 6 = .ok (.iconst 0, 1) := by decide +kernel
theorem dX2_clear_7 : decode cX2_clear 7 = .ok (.putfield 181, 3) := by decide +kernel
theorem dX2_clear_10 : decode cX2_clear 10 = .ok (.iload_n 1, 1) := by decide +kernel
theorem dX2_clear_11 : decode cX2_clear 11 = .ok (.ireturn, 1) := by decide +kernel
theorem dX2_drawn_0 : decode cX2_drawn 0 = .ok (.aload_n 0, 1) := by decide +kernel
theorem dX2_drawn_1 : decode cX2_drawn 1 = .ok (.aload_n 0, 1) := by decide +kernel
theorem dX2_drawn_2 : decode cX2_drawn 2 = .ok (.getfield 184, 3) := by decide +kernel
theorem dX2_drawn_5 : decode cX2_drawn 5 = .ok (.ldc 187, 2) := by decide +kernel
theorem dX2_drawn_7 : decode cX2_drawn 7 = .ok (.imul, 1) := by decide +kernel
theorem dX2_drawn_8 : decode cX2_drawn 8 = .ok (.ldc 188, 2) := by decide +kernel
theorem dX2_drawn_10 : decode cX2_drawn 10 = .ok (.iadd, 1) := by decide +kernel
theorem dX2_drawn_11 : decode cX2_drawn 11 = .ok (.putfield 184, 3) := by decide +kernel
theorem dX2_drawn_14 : decode cX2_drawn 14 = .ok (.aload_n 0, 1) := by decide +kernel
theorem dX2_drawn_15 : decode cX2_drawn 15 = .ok (.getfield 184, 3) := by decide +kernel
theorem dX2_drawn_18 : decode cX2_drawn 18 = .ok (.ldc 189, 2) := by decide +kernel
theorem dX2_drawn_20 : decode cX2_drawn 20 = .ok (.iand, 1) := by decide +kernel
theorem dX2_drawn_21 : decode cX2_drawn 21 = .ok (.sipush 256, 3) := by decide +kernel
theorem dX2_drawn_24 : decode cX2_drawn 24 = .ok (.idiv, 1) := by decide +kernel
theorem dX2_drawn_25 : decode cX2_drawn 25 = .ok (.iload_n 1, 1) := by decide +kernel
theorem dX2_drawn_26 : decode cX2_drawn 26 = .ok (.irem, 1) := by decide +kernel
theorem dX2_drawn_27 : decode cX2_drawn 27 = .ok (.ireturn, 1) := by decide +kernel
theorem dX2_lots_0 : decode cX2_lots 0 = .ok (.iload_n 1, 1) := by decide +kernel
theorem dX2_lots_1 : decode cX2_lots 1 = .ok (.iconst 1, 1) := by decide +kernel
theorem dX2_lots_2 : decode cX2_lots 2 = .ok (.if_icmp .ge 10, 3) := by decide +kernel
theorem dX2_lots_5 : decode cX2_lots 5 = .ok (.aload_n 0, 1) := by decide +kernel
theorem dX2_lots_6 : decode cX2_lots 6 = .ok (.bipush (-4), 2) := by decide +kernel
theorem dX2_lots_8 : decode cX2_lots 8 = .ok (.invokevirtual 36, 3) := by decide +kernel
theorem dX2_lots_11 : decode cX2_lots 11 = .ok (.ireturn, 1) := by decide +kernel
theorem dX2_lots_12 : decode cX2_lots 12 = .ok (.iload_n 1, 1) := by decide +kernel
theorem dX2_lots_13 : decode cX2_lots 13 = .ok (.bipush 20, 2) := by decide +kernel
theorem dX2_lots_15 : decode cX2_lots 15 = .ok (.if_icmp .le 10, 3) := by decide +kernel
theorem dX2_lots_18 : decode cX2_lots 18 = .ok (.aload_n 0, 1) := by decide +kernel
theorem dX2_lots_19 : decode cX2_lots 19 = .ok (.bipush (-6), 2) := by decide +kernel
theorem dX2_lots_21 : decode cX2_lots 21 = .ok (.invokevirtual 36, 3) := by decide +kernel
theorem dX2_lots_24 : decode cX2_lots 24 = .ok (.ireturn, 1) := by decide +kernel
theorem dX2_lots_25 : decode cX2_lots 25 = .ok (.iload_n 3, 1) := by decide +kernel
theorem dX2_lots_26 : decode cX2_lots 26 = .ok (.iconst 0, 1) := by decide +kernel
theorem dX2_lots_27 : decode cX2_lots 27 = .ok (.iconst 1, 1) := by decide +kernel
theorem dX2_lots_28 : decode cX2_lots 28 = .ok (.invokestatic 40, 3) := by decide +kernel
theorem dX2_lots_31 : decode cX2_lots 31 = .ok (.ifCond .ne 10, 3) := by decide +kernel
theorem dX2_lots_34 : decode cX2_lots 34 = .ok (.aload_n 0, 1) := by decide +kernel
theorem dX2_lots_35 : decode cX2_lots 35 = .ok (.bipush (-2), 2) := by decide +kernel
theorem dX2_lots_37 : decode cX2_lots 37 = .ok (.invokevirtual 36, 3) := by decide +kernel
theorem dX2_lots_40 : decode cX2_lots 40 = .ok (.ireturn, 1) := by decide +kernel
theorem dX2_lots_41 : decode cX2_lots 41 = .ok (.aload_n 0, 1) := by decide +kernel
theorem dX2_lots_42 : decode cX2_lots 42 = .ok (.getfield 9, 3) := by decide +kernel
theorem dX2_lots_45 : decode cX2_lots 45 = .ok (.iconst 0, 1) := by decide +kernel
theorem dX2_lots_46 : decode cX2_lots 46 = .ok (.iaload, 1) := by decide +kernel
theorem dX2_lots_47 : decode cX2_lots 47 = .ok (.ifCond .ne 10, 3) := by decide +kernel
theorem dX2_lots_50 : decode cX2_lots 50 = .ok (.aload_n 0, 1) := by decide +kernel
theorem dX2_lots_51 : decode cX2_lots 51 = .ok (.bipush (-3), 2) := by decide +kernel
theorem dX2_lots_53 : decode cX2_lots 53 = .ok (.invokevirtual 36, 3) := by decide +kernel
theorem dX2_lots_56 : decode cX2_lots 56 = .ok (.ireturn, 1) := by decide +kernel
theorem dX2_lots_57 : decode cX2_lots 57 = .ok (.aload_n 0, 1) := by decide +kernel
theorem dX2_lots_58 : decode cX2_lots 58 = .ok (.iload_n 2, 1) := by decide +kernel
theorem dX2_lots_59 : decode cX2_lots 59 = .ok (.putfield 184, 3) := by decide +kernel
theorem dX2_lots_62 : decode cX2_lots 62 = .ok (.iconst 0, 1) := by decide +kernel
theorem dX2_lots_63 : decode cX2_lots 63 = .ok (.istore 4, 2) := by decide +kernel
theorem dX2_lots_65 : decode cX2_lots 65 = .ok (.iconst 0, 1) := by decide +kernel
theorem dX2_lots_66 : decode cX2_lots 66 = .ok (.istore 5, 2) := by decide +kernel
theorem dX2_lots_68 : decode cX2_lots 68 = .ok (.iload 5, 2) := by decide +kernel
theorem dX2_lots_70 : decode cX2_lots 70 = .ok (.iload_n 1, 1) := by decide +kernel
theorem dX2_lots_71 : decode cX2_lots 71 = .ok (.if_icmp .ge 116, 3) := by decide +kernel
theorem dX2_lots_74 : decode cX2_lots 74 = .ok (.aload_n 0, 1) := by decide +kernel
theorem dX2_lots_75 : decode cX2_lots 75 = .ok (.getfield 9, 3) := by decide +kernel
theorem dX2_lots_78 : decode cX2_lots 78 = .ok (.aload_n 0, 1) := by decide +kernel
theorem dX2_lots_79 : decode cX2_lots 79 = .ok (.getfield 13, 3) := by decide +kernel
theorem dX2_lots_82 : decode cX2_lots 82 = .ok (.invokestatic 121, 3) := by decide +kernel
theorem dX2_lots_85 : decode cX2_lots 85 = .ok (.iconst 0, 1) := by decide +kernel
theorem dX2_lots_86 : decode cX2_lots 86 = .ok (.istore 6, 2) := by decide +kernel
theorem dX2_lots_88 : decode cX2_lots 88 = .ok (.iload 6, 2) := by decide +kernel
theorem dX2_lots_90 : decode cX2_lots 90 = .ok (.iconst 5, 1) := by decide +kernel
theorem dX2_lots_91 : decode cX2_lots 91 = .ok (.if_icmp .ge 66, 3) := by decide +kernel
theorem dX2_lots_94 : decode cX2_lots 94 = .ok (.aload_n 0, 1) := by decide +kernel
theorem dX2_lots_95 : decode cX2_lots 95 = .ok (.aload_n 0, 1) := by decide +kernel
theorem dX2_lots_96 : decode cX2_lots 96 = .ok (.getfield 9, 3) := by decide +kernel
theorem dX2_lots_99 : decode cX2_lots 99 = .ok (.iconst 0, 1) := by decide +kernel
theorem dX2_lots_100 : decode cX2_lots 100 = .ok (.iaload, 1) := by decide +kernel
theorem dX2_lots_101 : decode cX2_lots 101 = .ok (.invokevirtual 190, 3) := by decide +kernel
theorem dX2_lots_104 : decode cX2_lots 104 = .ok (.istore 7, 2) := by decide +kernel
theorem dX2_lots_106 : decode cX2_lots 106 = .ok (.aload_n 0, 1) := by decide +kernel
theorem dX2_lots_107 : decode cX2_lots 107 = .ok (.bipush 10, 2) := by decide +kernel
theorem dX2_lots_109 : decode cX2_lots 109 = .ok (.invokevirtual 190, 3) := by decide +kernel
theorem dX2_lots_112 : decode cX2_lots 112 = .ok (.istore 8, 2) := by decide +kernel
theorem dX2_lots_114 : decode cX2_lots 114 = .ok (.aload_n 0, 1) := by decide +kernel
theorem dX2_lots_115 : decode cX2_lots 115 = .ok (.getfield 13, 3) := by decide +kernel
theorem dX2_lots_118 : decode cX2_lots 118 = .ok (.iload 7, 2) := by decide +kernel
theorem dX2_lots_120 : decode cX2_lots 120 = .ok (.invokestatic 55, 3) := by decide +kernel
theorem dX2_lots_123 : decode cX2_lots 123 = .ok (.ifCond .eq 17, 3) := by decide +kernel
theorem dX2_lots_126 : decode cX2_lots 126 = .ok (.aload_n 0, 1) := by decide +kernel
theorem dX2_lots_127 : decode cX2_lots 127 = .ok (.getfield 13, 3) := by decide +kernel
theorem dX2_lots_130 : decode cX2_lots 130 = .ok (.iload 7, 2) := by decide +kernel
theorem dX2_lots_132 : decode cX2_lots 132 = .ok (.iload 8, 2) := by decide +kernel
theorem dX2_lots_134 : decode cX2_lots 134 = .ok (.invokestatic 112, 3) := by decide +kernel
theorem dX2_lots_137 : decode cX2_lots 137 = .ok (.goto 4, 3) := by decide +kernel
theorem dX2_lots_140 : decode cX2_lots 140 = .ok (.iconst 0, 1) := by decide +kernel
theorem dX2_lots_141 : decode cX2_lots 141 = .ok (.istore 9, 2) := by decide +kernel
theorem dX2_lots_143 : decode cX2_lots 143 = .ok (.aload_n 0, 1) := by decide +kernel
theorem dX2_lots_144 : decode cX2_lots 144 = .ok (.getfield 13, 3) := by decide +kernel
theorem dX2_lots_147 : decode cX2_lots 147 = .ok (.iconst 0, 1) := by decide +kernel
theorem dX2_lots_148 : decode cX2_lots 148 = .ok (.invokestatic 80, 3) := by decide +kernel
theorem dX2_lots_151 : decode cX2_lots 151 = .ok (.iinc 6 1, 3) := by decide +kernel
theorem dX2_lots_154 : decode cX2_lots 154 = .ok (.goto (-66), 3) := by decide +kernel
theorem dX2_lots_157 : decode cX2_lots 157 = .ok (.iload 4, 2) := by decide +kernel
theorem dX2_lots_159 : decode cX2_lots 159 = .ok (.aload_n 0, 1) := by decide +kernel
theorem dX2_lots_160 : decode cX2_lots 160 = .ok (.getfield 13, 3) := by decide +kernel
theorem dX2_lots_163 : decode cX2_lots 163 = .ok (.iload_n 3, 1) := by decide +kernel
theorem dX2_lots_164 : decode cX2_lots 164 = .ok (.ifCond .ne 7, 3) := by decide +kernel
theorem dX2_lots_167 : decode cX2_lots 167 = .ok (.iconst 0, 1) := by decide +kernel
theorem dX2_lots_168 : decode cX2_lots 168 = .ok (.goto 4, 3) := by decide +kernel
theorem dX2_lots_171 : decode cX2_lots 171 = .ok (.iconst 1, 1) := by decide +kernel
theorem dX2_lots_172 : decode cX2_lots 172 = .ok (.invokestatic 73, 3) := by decide +kernel
theorem dX2_lots_175 : decode cX2_lots 175 = .ok (.invokestatic 67, 3) := by decide +kernel
theorem dX2_lots_178 : decode cX2_lots 178 = .ok (.iadd, 1) := by decide +kernel
theorem dX2_lots_179 : decode cX2_lots 179 = .ok (.istore 4, 2) := by decide +kernel
theorem dX2_lots_181 : decode cX2_lots 181 = .ok (.iinc 5 1, 3) := by decide +kernel
theorem dX2_lots_184 : decode cX2_lots 184 = .ok (.goto (-116), 3) := by decide +kernel
theorem dX2_lots_187 : decode cX2_lots 187 = .ok (.iload 4, 2) := by decide +kernel
theorem dX2_lots_189 : decode cX2_lots 189 = .ok (.ireturn, 1) := by decide +kernel
theorem dX2_image_0 : decode cX2_image 0 = .ok (.aload_n 0, 1) := by decide +kernel
theorem dX2_image_1 : decode cX2_image 1 = .ok (.getfield 9, 3) := by decide +kernel
theorem dX2_image_4 : decode cX2_image 4 = .ok (.aload_n 0, 1) := by decide +kernel
theorem dX2_image_5 : decode cX2_image 5 = .ok (.getfield 16, 3) := by decide +kernel
theorem dX2_image_8 : decode cX2_image 8 = .ok (.invokestatic 121, 3) := by decide +kernel
theorem dX2_image_11 : decode cX2_image 11 = .ok (.aload_n 0, 1) := by decide +kernel
theorem dX2_image_12 : decode cX2_image 12 = .ok (.iconst 1, 1) := by decide +kernel
theorem dX2_image_13 : decode cX2_image 13 = .ok (.putfield 193, 3) := by decide +kernel
theorem dX2_image_16 : decode cX2_image 16 = .ok (.aload_n 0, 1) := by decide +kernel
theorem dX2_image_17 : decode cX2_image 17 = .ok (.getfield 9, 3) := by decide +kernel
theorem dX2_image_20 : decode cX2_image 20 = .ok (.iconst 1, 1) := by decide +kernel
theorem dX2_image_21 : decode cX2_image 21 = .ok (.iaload, 1) := by decide +kernel
theorem dX2_image_22 : decode cX2_image 22 = .ok (.ireturn, 1) := by decide +kernel
theorem dX2_on_0 : decode cX2_on 0 = .ok (.aload_n 0, 1) := by decide +kernel
theorem dX2_on_1 : decode cX2_on 1 = .ok (.getfield 193, 3) := by decide +kernel
theorem dX2_on_4 : decode cX2_on 4 = .ok (.ifCond .ne 10, 3) := by decide +kernel
theorem dX2_on_7 : decode cX2_on 7 = .ok (.aload_n 0, 1) := by decide +kernel
theorem dX2_on_8 : decode cX2_on 8 = .ok (.bipush (-3), 2) := by decide +kernel
theorem dX2_on_10 : decode cX2_on 10 = .ok (.invokevirtual 36, 3) := by decide +kernel
theorem dX2_on_13 : decode cX2_on 13 = .ok (.ireturn, 1) := by decide +kernel
theorem dX2_on_14 : decode cX2_on 14 = .ok (.aload_n 0, 1) := by decide +kernel
theorem dX2_on_15 : decode cX2_on 15 = .ok (.getfield 16, 3) := by decide +kernel
theorem dX2_on_18 : decode cX2_on 18 = .ok (.aload_n 0, 1) := by decide +kernel
theorem dX2_on_19 : decode cX2_on 19 = .ok (.getfield 9, 3) := by decide +kernel
theorem dX2_on_22 : decode cX2_on 22 = .ok (.invokestatic 121, 3) := by decide +kernel
theorem dX2_on_25 : decode cX2_on 25 = .ok (.aload_n 0, 1) := by decide +kernel
theorem dX2_on_26 : decode cX2_on 26 = .ok (.getfield 9, 3) := by decide +kernel
theorem dX2_on_29 : decode cX2_on 29 = .ok (.iconst 1, 1) := by decide +kernel
theorem dX2_on_30 : decode cX2_on 30 = .ok (.iaload, 1) := by decide +kernel
theorem dX2_on_31 : decode cX2_on 31 = .ok (.ireturn, 1) := by decide +kernel
theorem dX2_count_0 : decode cX2_count 0 = .ok (.iload_n 1, 1) := by decide +kernel
theorem dX2_count_1 : decode cX2_count 1 = .ok (.bipush 11, 2) := by decide +kernel
theorem dX2_count_3 : decode cX2_count 3 = .ok (.bipush 16, 2) := by decide +kernel
theorem dX2_count_5 : decode cX2_count 5 = .ok (.invokestatic 40, 3) := by decide +kernel
theorem dX2_count_8 : decode cX2_count 8 = .ok (.ifCond .eq 13, 3) := by decide +kernel
theorem dX2_count_11 : decode cX2_count 11 = .ok (.aload_n 0, 1) := by decide +kernel
theorem dX2_count_12 : decode cX2_count 12 = .ok (.getfield 28, 3) := by decide +kernel
theorem dX2_count_15 : decode cX2_count 15 = .ok (.iload_n 1, 1) := by decide +kernel
theorem dX2_count_16 : decode cX2_count 16 = .ok (.bipush 10, 2) := by decide +kernel
theorem dX2_count_18 : decode cX2_count 18 = .ok (.isub, 1) := by decide +kernel
theorem dX2_count_19 : decode cX2_count 19 = .ok (.iaload, 1) := by decide +kernel
theorem dX2_count_20 : decode cX2_count 20 = .ok (.ireturn, 1) := by decide +kernel
theorem dX2_count_21 : decode cX2_count 21 = .ok (.iload_n 1, 1) := by decide +kernel
theorem dX2_count_22 : decode cX2_count 22 = .ok (.iconst 2, 1) := by decide +kernel
theorem dX2_count_23 : decode cX2_count 23 = .ok (.iconst 4, 1) := by decide +kernel
theorem dX2_count_24 : decode cX2_count 24 = .ok (.invokestatic 40, 3) := by decide +kernel
theorem dX2_count_27 : decode cX2_count 27 = .ok (.ifCond .eq 14, 3) := by decide +kernel
theorem dX2_count_30 : decode cX2_count 30 = .ok (.aload_n 0, 1) := by decide +kernel
theorem dX2_count_31 : decode cX2_count 31 = .ok (.getfield 9, 3) := by decide +kernel
theorem dX2_count_34 : decode cX2_count 34 = .ok (.iload_n 1, 1) := by decide +kernel
theorem dX2_count_35 : decode cX2_count 35 = .ok (.iconst 2, 1) := by decide +kernel
theorem dX2_count_36 : decode cX2_count 36 = .ok (.isub, 1) := by decide +kernel
theorem dX2_count_37 : decode cX2_count 37 = .ok (.invokestatic 73, 3) := by decide +kernel
theorem dX2_count_40 : decode cX2_count 40 = .ok (.ireturn, 1) := by decide +kernel
theorem dX2_count_41 : decode cX2_count 41 = .ok (.iload_n 1, 1) := by decide +kernel
theorem dX2_count_42 : decode cX2_count 42 = .ok (.tableswitch 70 0 7 #[46, 46, 70, 70, 70, 53, 60, 65], 46) := by decide +kernel
theorem dX2_count_88 : decode cX2_count 88 = .ok (.aload_n 0, 1) := by decide +kernel
theorem dX2_count_89 : decode cX2_count 89 = .ok (.getfield 9, 3) := by decide +kernel
theorem dX2_count_92 : decode cX2_count 92 = .ok (.iload_n 1, 1) := by decide +kernel
theorem dX2_count_93 : decode cX2_count 93 = .ok (.iaload, 1) := by decide +kernel
theorem dX2_count_94 : decode cX2_count 94 = .ok (.ireturn, 1) := by decide +kernel
theorem dX2_count_95 : decode cX2_count 95 = .ok (.aload_n 0, 1) := by decide +kernel
theorem dX2_count_96 : decode cX2_count 96 = .ok (.getfield 9, 3) := by decide +kernel
theorem dX2_count_99 : decode cX2_count 99 = .ok (.iconst 2, 1) := by decide +kernel
theorem dX2_count_100 : decode cX2_count 100 = .ok (.iaload, 1) := by decide +kernel
theorem dX2_count_101 : decode cX2_count 101 = .ok (.ireturn, 1) := by decide +kernel
theorem dX2_count_102 : decode cX2_count 102 = .ok (.aload_n 0, 1) := by decide +kernel
theorem dX2_count_103 : decode cX2_count 103 = .ok (.getfield 181, 3) := by decide +kernel
theorem dX2_count_106 : decode cX2_count 106 = .ok (.ireturn, 1) := by decide +kernel
theorem dX2_count_107 : decode cX2_count 107 = .ok (.aload_n 0, 1) := by decide +kernel
theorem dX2_count_108 : decode cX2_count 108 = .ok (.getfield 84, 3) := by decide +kernel
theorem dX2_count_111 : decode cX2_count 111 = .ok (.ireturn, 1) := by decide +kernel
theorem dX2_count_112 : decode cX2_count 112 = .ok (.bipush (-9), 2) := by decide +kernel
theorem dX2_count_114 : decode cX2_count 114 = .ok (.ireturn, 1) := by decide +kernel
