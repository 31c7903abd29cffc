theorem dX1_init_0 : decode cX1_init 0 = .ok (.aload_n 0, 1) := by decide +kernel
theorem dX1_init_1 : decode cX1_init 1 = .ok (.invokespecial 1, 3) := by decide +kernel
theorem dX1_init_4 : decode cX1_init 4 = .ok (.aload_n 0, 1) := by decide +kernel
theorem dX1_init_5 : decode cX1_init 5 = .ok (.new 7, 3) := by decide +kernel
theorem dX1_init_8 : decode cX1_init 8 = .ok (.dup, 1) := by decide +kernel
theorem dX1_init_9 : decode cX1_init 9 = .ok (.invokespecial 9, 3) := by decide +kernel
theorem dX1_init_12 : decode cX1_init 12 = .ok (.putfield 10, 3) := by decide +kernel
theorem dX1_init_15 : decode cX1_init 15 = .ok (.aload_n 0, 1) := by decide +kernel
theorem dX1_init_16 : decode cX1_init 16 = .ok (.new 7, 3) := by decide +kernel
theorem dX1_init_19 : decode cX1_init 19 = .ok (.dup, 1) := by decide +kernel
theorem dX1_init_20 : decode cX1_init 20 = .ok (.invokespecial 9, 3) := by decide +kernel
theorem dX1_init_23 : decode cX1_init 23 = .ok (.putfield 16, 3) := by decide +kernel
theorem dX1_init_26 : decode cX1_init 26 = .ok (.aload_n 0, 1) := by decide +kernel
theorem dX1_init_27 : decode cX1_init 27 = .ok (.new 7, 3) := by decide +kernel
theorem dX1_init_30 : decode cX1_init 30 = .ok (.dup, 1) := by decide +kernel
theorem dX1_init_31 : decode cX1_init 31 = .ok (.invokespecial 9, 3) := by decide +kernel
theorem dX1_init_34 : decode cX1_init 34 = .ok (.putfield 19, 3) := by decide +kernel
theorem dX1_init_37 : decode cX1_init 37 = .ok (.aload_n 0, 1) := by decide +kernel
theorem dX1_init_38 : decode cX1_init 38 = .ok (.bipush 96, 2) := by decide +kernel
theorem dX1_init_40 : decode cX1_init 40 = .ok (.newarray .int, 2) := by decide +kernel
theorem dX1_init_42 : decode cX1_init 42 = .ok (.putfield 22, 3) := by decide +kernel
theorem dX1_init_45 : decode cX1_init 45 = .ok (.aload_n 0, 1) := by decide +kernel
theorem dX1_init_46 : decode cX1_init 46 = .ok (.bipush 16, 2) := by decide +kernel
theorem dX1_init_48 : decode cX1_init 48 = .ok (.newarray .int, 2) := by decide +kernel
theorem dX1_init_50 : decode cX1_init 50 = .ok (.putfield 26, 3) := by decide +kernel
theorem dX1_init_53 : decode cX1_init 53 = .ok (.aload_n 0, 1) := by decide +kernel
theorem dX1_init_54 : decode cX1_init 54 = .ok (.bipush 7, 2) := by decide +kernel
theorem dX1_init_56 : decode cX1_init 56 = .ok (.newarray .int, 2) := by decide +kernel
theorem dX1_init_58 : decode cX1_init 58 = .ok (.putfield 29, 3) := by decide +kernel
theorem dX1_init_61 : decode cX1_init 61 = .ok (.aload_n 0, 1) := by decide +kernel
theorem dX1_init_62 : decode cX1_init 62 = .ok (.bipush 10, 2) := by decide +kernel
theorem dX1_init_64 : decode cX1_init 64 = .ok (.newarray .int, 2) := by decide +kernel
theorem dX1_init_66 : decode cX1_init 66 = .ok (.putfield 32, 3) := by decide +kernel
theorem dX1_init_69 : decode cX1_init 69 = .ok (.return_, 1) := by decide +kernel
theorem dX1_letter_0 : decode cX1_letter 0 = .ok (.iload_n 1, 1) := by decide +kernel
theorem dX1_letter_1 : decode cX1_letter 1 = .ok (.iconst 0, 1) := by decide +kernel
theorem dX1_letter_2 : decode cX1_letter 2 = .ok (.sipush 255, 3) := by decide +kernel
theorem dX1_letter_5 : decode cX1_letter 5 = .ok (.invokestatic 35, 3) := by decide +kernel
theorem dX1_letter_8 : decode cX1_letter 8 = .ok (.istore_n 2, 1) := by decide +kernel
theorem dX1_letter_9 : decode cX1_letter 9 = .ok (.iload_n 2, 1) := by decide +kernel
theorem dX1_letter_10 : decode cX1_letter 10 = .ok (.ifCond .ne 15, 3) := by decide +kernel
theorem dX1_letter_13 : decode cX1_letter 13 = .ok (.aload_n 0, 1) := by decide +kernel
theorem dX1_letter_14 : decode cX1_letter 14 = .ok (.getfield 39, 3) := by decide +kernel
theorem dX1_letter_17 : decode cX1_letter 17 = .ok (.bipush 96, 2) := by decide +kernel
theorem dX1_letter_19 : decode cX1_letter 19 = .ok (.if_icmp .lt 6, 3) := by decide +kernel
theorem dX1_letter_22 : decode cX1_letter 22 = .ok (.bipush (-6), 2) := by decide +kernel
theorem dX1_letter_24 : decode cX1_letter 24 = .ok (.istore_n 2, 1) := by decide +kernel
theorem dX1_letter_25 : decode cX1_letter 25 = .ok (.iload_n 2, 1) := by decide +kernel
theorem dX1_letter_26 : decode cX1_letter 26 = .ok (.ifCond .eq 9, 3) := by decide +kernel
theorem dX1_letter_29 : decode cX1_letter 29 = .ok (.aload_n 0, 1) := by decide +kernel
theorem dX1_letter_30 : decode cX1_letter 30 = .ok (.iload_n 2, 1) := by decide +kernel
theorem dX1_letter_31 : decode cX1_letter 31 = .ok (.invokevirtual 43, 3) := by decide +kernel
theorem dX1_letter_34 : decode cX1_letter 34 = .ok (.ireturn, 1) := by decide +kernel
theorem dX1_letter_35 : decode cX1_letter 35 = .ok (.aload_n 0, 1) := by decide +kernel
theorem dX1_letter_36 : decode cX1_letter 36 = .ok (.getfield 22, 3) := by decide +kernel
theorem dX1_letter_39 : decode cX1_letter 39 = .ok (.aload_n 0, 1) := by decide +kernel
theorem dX1_letter_40 : decode cX1_letter 40 = .ok (.getfield 39, 3) := by decide +kernel
theorem dX1_letter_43 : decode cX1_letter 43 = .ok (.iload_n 1, 1) := by decide +kernel
theorem dX1_letter_44 : decode cX1_letter 44 = .ok (.iastore, 1) := by decide +kernel
theorem dX1_letter_45 : decode cX1_letter 45 = .ok (.aload_n 0, 1) := by decide +kernel
theorem dX1_letter_46 : decode cX1_letter 46 = .ok (.dup, 1) := by decide +kernel
theorem dX1_letter_47 : decode cX1_letter 47 = .ok (.getfield 39, 3) := by decide +kernel
theorem dX1_letter_50 : decode cX1_letter 50 = .ok (.iconst 1, 1) := by decide +kernel
theorem dX1_letter_51 : decode cX1_letter 51 = .ok (.iadd, 1) := by decide +kernel
theorem dX1_letter_52 : decode cX1_letter 52 = .ok (.putfield 39, 3) := by decide +kernel
theorem dX1_letter_55 : decode cX1_letter 55 = .ok (.aload_n 0, 1) := by decide +kernel
theorem dX1_letter_56 : decode cX1_letter 56 = .ok (.getfield 39, 3) := by decide +kernel
theorem dX1_letter_59 : decode cX1_letter 59 = .ok (.ireturn, 1) := by decide +kernel
theorem dX1_room_0 : decode cX1_room 0 = .ok (.aload_n 0, 1) := by decide +kernel
theorem dX1_room_1 : decode cX1_room 1 = .ok (.invokevirtual 47, 3) := by decide +kernel
theorem dX1_room_4 : decode cX1_room 4 = .ok (.istore_n 1, 1) := by decide +kernel
theorem dX1_room_5 : decode cX1_room 5 = .ok (.aload_n 0, 1) := by decide +kernel
theorem dX1_room_6 : decode cX1_room 6 = .ok (.iconst 0, 1) := by decide +kernel
theorem dX1_room_7 : decode cX1_room 7 = .ok (.putfield 39, 3) := by decide +kernel
theorem dX1_room_10 : decode cX1_room 10 = .ok (.iload_n 1, 1) := by decide +kernel
theorem dX1_room_11 : decode cX1_room 11 = .ok (.ireturn, 1) := by decide +kernel
theorem dX1_thing_0 : decode cX1_thing 0 = .ok (.aload_n 0, 1) := by decide +kernel
theorem dX1_thing_1 : decode cX1_thing 1 = .ok (.iload_n 1, 1) := by decide +kernel
theorem dX1_thing_2 : decode cX1_thing 2 = .ok (.iload_n 2, 1) := by decide +kernel
theorem dX1_thing_3 : decode cX1_thing 3 = .ok (.bipush 7, 2) := by decide +kernel
theorem dX1_thing_5 : decode cX1_thing 5 = .ok (.invokestatic 51, 3) := by decide +kernel
theorem dX1_thing_8 : decode cX1_thing 8 = .ok (.invokevirtual 55, 3) := by decide +kernel
theorem dX1_thing_11 : decode cX1_thing 11 = .ok (.istore_n 3, 1) := by decide +kernel
theorem dX1_thing_12 : decode cX1_thing 12 = .ok (.iload_n 3, 1) := by decide +kernel
theorem dX1_thing_13 : decode cX1_thing 13 = .ok (.ifCond .eq 9, 3) := by decide +kernel
theorem dX1_thing_16 : decode cX1_thing 16 = .ok (.aload_n 0, 1) := by decide +kernel
theorem dX1_thing_17 : decode cX1_thing 17 = .ok (.iload_n 3, 1) := by decide +kernel
theorem dX1_thing_18 : decode cX1_thing 18 = .ok (.invokevirtual 43, 3) := by decide +kernel
theorem dX1_thing_21 : decode cX1_thing 21 = .ok (.ireturn, 1) := by decide +kernel
theorem dX1_thing_22 : decode cX1_thing 22 = .ok (.iload_n 2, 1) := by decide +kernel
theorem dX1_thing_23 : decode cX1_thing 23 = .ok (.tableswitch 108 0 6 #[41, 51, 61, 71, 80, 90, 99], 41) := by decide +kernel
theorem dX1_thing_64 : decode cX1_thing 64 = .ok (.aload_n 0, 1) := by decide +kernel
theorem dX1_thing_65 : decode cX1_thing 65 = .ok (.getfield 10, 3) := by decide +kernel
theorem dX1_thing_68 : decode cX1_thing 68 = .ok (.getfield 58, 3) := by decide +kernel
theorem dX1_thing_71 : decode cX1_thing 71 = .ok (.iload_n 1, 1) := by decide +kernel
theorem dX1_thing_72 : decode cX1_thing 72 = .ok (.iaload, 1) := by decide +kernel
theorem dX1_thing_73 : decode cX1_thing 73 = .ok (.ireturn, 1) := by decide +kernel
theorem dX1_thing_74 : decode cX1_thing 74 = .ok (.aload_n 0, 1) := by decide +kernel
theorem dX1_thing_75 : decode cX1_thing 75 = .ok (.getfield 10, 3) := by decide +kernel
theorem dX1_thing_78 : decode cX1_thing 78 = .ok (.getfield 61, 3) := by decide +kernel
theorem dX1_thing_81 : decode cX1_thing 81 = .ok (.iload_n 1, 1) := by decide +kernel
theorem dX1_thing_82 : decode cX1_thing 82 = .ok (.iaload, 1) := by decide +kernel
theorem dX1_thing_83 : decode cX1_thing 83 = .ok (.ireturn, 1) := by decide +kernel
theorem dX1_thing_84 : decode cX1_thing 84 = .ok (.aload_n 0, 1) := by decide +kernel
theorem dX1_thing_85 : decode cX1_thing 85 = .ok (.getfield 10, 3) := by decide +kernel
theorem dX1_thing_88 : decode cX1_thing 88 = .ok (.getfield 64, 3) := by decide +kernel
theorem dX1_thing_91 : decode cX1_thing 91 = .ok (.iload_n 1, 1) := by decide +kernel
theorem dX1_thing_92 : decode cX1_thing 92 = .ok (.iaload, 1) := by decide +kernel
theorem dX1_thing_93 : decode cX1_thing 93 = .ok (.ireturn, 1) := by decide +kernel
theorem dX1_thing_94 : decode cX1_thing 94 = .ok (.aload_n 0, 1) := by decide +kernel
theorem dX1_thing_95 : decode cX1_thing 95 = .ok (.getfield 10, 3) := by decide +kernel
theorem dX1_thing_98 : decode cX1_thing 98 = .ok (.iload_n 1, 1) := by decide +kernel
theorem dX1_thing_99 : decode cX1_thing 99 = .ok (.invokevirtual 67, 3) := by decide +kernel
theorem dX1_thing_102 : decode cX1_thing 102 = .ok (.ireturn, 1) := by decide +kernel
theorem dX1_thing_103 : decode cX1_thing 103 = .ok (.aload_n 0, 1) := by decide +kernel
theorem dX1_thing_104 : decode cX1_thing 104 = .ok (.getfield 10, 3) := by decide +kernel
theorem dX1_thing_107 : decode cX1_thing 107 = .ok (.getfield 70, 3) := by decide +kernel
theorem dX1_thing_110 : decode cX1_thing 110 = .ok (.iload_n 1, 1) := by decide +kernel
theorem dX1_thing_111 : decode cX1_thing 111 = .ok (.iaload, 1) := by decide +kernel
theorem dX1_thing_112 : decode cX1_thing 112 = .ok (.ireturn, 1) := by decide +kernel
theorem dX1_thing_113 : decode cX1_thing 113 = .ok (.aload_n 0, 1) := by decide +kernel
theorem dX1_thing_114 : decode cX1_thing 114 = .ok (.getfield 10, 3) := by decide +kernel
theorem dX1_thing_117 : decode cX1_thing 117 = .ok (.iload_n 1, 1) := by decide +kernel
theorem dX1_thing_118 : decode cX1_thing 118 = .ok (.invokevirtual 73, 3) := by decide +kernel
theorem dX1_thing_121 : decode cX1_thing 121 = .ok (.ireturn, 1) := by decide +kernel
theorem dX1_thing_122 : decode cX1_thing 122 = .ok (.aload_n 0, 1) := by decide +kernel
theorem dX1_thing_123 : decode cX1_thing 123 = .ok (.getfield 10, 3) := by decide +kernel
theorem dX1_thing_126 : decode cX1_thing 126 = .ok (.iload_n 1, 1) := by decide +kernel
theorem dX1_thing_127 : decode cX1_thing 127 = .ok (.invokevirtual 76, 3) := by decide +kernel
theorem dX1_thing_130 : decode cX1_thing 130 = .ok (.ireturn, 1) := by decide +kernel
theorem dX1_thing_131 : decode cX1_thing 131 = .ok (.aload_n 0, 1) := by decide +kernel
theorem dX1_thing_132 : decode cX1_thing 132 = .ok (.getfield 10, 3) := by decide +kernel
theorem dX1_thing_135 : decode cX1_thing 135 = .ok (.iload_n 1, 1) := by decide +kernel
theorem dX1_thing_136 : decode cX1_thing 136 = .ok (.invokevirtual 79, 3) := by decide +kernel
theorem dX1_thing_139 : decode cX1_thing 139 = .ok (.invokestatic 83, 3) := by decide +kernel
theorem dX1_thing_142 : decode cX1_thing 142 = .ok (.ireturn, 1) := by decide +kernel
theorem dX1_pulls_0 : decode cX1_pulls 0 = .ok (.aload_n 0, 1) := by decide +kernel
theorem dX1_pulls_1 : decode cX1_pulls 1 = .ok (.iload_n 1, 1) := by decide +kernel
theorem dX1_pulls_2 : decode cX1_pulls 2 = .ok (.iload_n 2, 1) := by decide +kernel
theorem dX1_pulls_3 : decode cX1_pulls 3 = .ok (.iconst 0, 1) := by decide +kernel
theorem dX1_pulls_4 : decode cX1_pulls 4 = .ok (.bipush 9, 2) := by decide +kernel
theorem dX1_pulls_6 : decode cX1_pulls 6 = .ok (.invokestatic 35, 3) := by decide +kernel
theorem dX1_pulls_9 : decode cX1_pulls 9 = .ok (.invokevirtual 87, 3) := by decide +kernel
theorem dX1_pulls_12 : decode cX1_pulls 12 = .ok (.istore_n 3, 1) := by decide +kernel
theorem dX1_pulls_13 : decode cX1_pulls 13 = .ok (.iload_n 3, 1) := by decide +kernel
theorem dX1_pulls_14 : decode cX1_pulls 14 = .ok (.ifCond .eq 9, 3) := by decide +kernel
theorem dX1_pulls_17 : decode cX1_pulls 17 = .ok (.aload_n 0, 1) := by decide +kernel
theorem dX1_pulls_18 : decode cX1_pulls 18 = .ok (.iload_n 3, 1) := by decide +kernel
theorem dX1_pulls_19 : decode cX1_pulls 19 = .ok (.invokevirtual 43, 3) := by decide +kernel
theorem dX1_pulls_22 : decode cX1_pulls 22 = .ok (.ireturn, 1) := by decide +kernel
theorem dX1_pulls_23 : decode cX1_pulls 23 = .ok (.aload_n 0, 1) := by decide +kernel
theorem dX1_pulls_24 : decode cX1_pulls 24 = .ok (.getfield 10, 3) := by decide +kernel
theorem dX1_pulls_27 : decode cX1_pulls 27 = .ok (.iload_n 1, 1) := by decide +kernel
theorem dX1_pulls_28 : decode cX1_pulls 28 = .ok (.iload_n 2, 1) := by decide +kernel
theorem dX1_pulls_29 : decode cX1_pulls 29 = .ok (.invokevirtual 90, 3) := by decide +kernel
theorem dX1_pulls_32 : decode cX1_pulls 32 = .ok (.invokestatic 93, 3) := by decide +kernel
theorem dX1_pulls_35 : decode cX1_pulls 35 = .ok (.ireturn, 1) := by decide +kernel
theorem dX1_floor_0 : decode cX1_floor 0 = .ok (.iload_n 1, 1) := by decide +kernel
theorem dX1_floor_1 : decode cX1_floor 1 = .ok (.iconst 0, 1) := by decide +kernel
theorem dX1_floor_2 : decode cX1_floor 2 = .ok (.bipush 9, 2) := by decide +kernel
theorem dX1_floor_4 : decode cX1_floor 4 = .ok (.invokestatic 35, 3) := by decide +kernel
theorem dX1_floor_7 : decode cX1_floor 7 = .ok (.istore_n 2, 1) := by decide +kernel
theorem dX1_floor_8 : decode cX1_floor 8 = .ok (.iload_n 2, 1) := by decide +kernel
theorem dX1_floor_9 : decode cX1_floor 9 = .ok (.ifCond .ne 16, 3) := by decide +kernel
theorem dX1_floor_12 : decode cX1_floor 12 = .ok (.aload_n 0, 1) := by decide +kernel
theorem dX1_floor_13 : decode cX1_floor 13 = .ok (.getfield 10, 3) := by decide +kernel
theorem dX1_floor_16 : decode cX1_floor 16 = .ok (.getfield 98, 3) := by decide +kernel
theorem dX1_floor_19 : decode cX1_floor 19 = .ok (.ifCond .ne 6, 3) := by decide +kernel
theorem dX1_floor_22 : decode cX1_floor 22 = .ok (.bipush (-3), 2) := by decide +kernel
theorem dX1_floor_24 : decode cX1_floor 24 = .ok (.istore_n 2, 1) := by decide +kernel
theorem dX1_floor_25 : decode cX1_floor 25 = .ok (.iload_n 2, 1) := by decide +kernel
theorem dX1_floor_26 : decode cX1_floor 26 = .ok (.ifCond .eq 9, 3) := by decide +kernel
theorem dX1_floor_29 : decode cX1_floor 29 = .ok (.aload_n 0, 1) := by decide +kernel
theorem dX1_floor_30 : decode cX1_floor 30 = .ok (.iload_n 2, 1) := by decide +kernel
theorem dX1_floor_31 : decode cX1_floor 31 = .ok (.invokevirtual 43, 3) := by decide +kernel
theorem dX1_floor_34 : decode cX1_floor 34 = .ok (.ireturn, 1) := by decide +kernel
theorem dX1_floor_35 : decode cX1_floor 35 = .ok (.aload_n 0, 1) := by decide +kernel
theorem dX1_floor_36 : decode cX1_floor 36 = .ok (.getfield 10, 3) := by decide +kernel
theorem dX1_floor_39 : decode cX1_floor 39 = .ok (.iload_n 1, 1) := by decide +kernel
theorem dX1_floor_40 : decode cX1_floor 40 = .ok (.invokevirtual 102, 3) := by decide +kernel
theorem dX1_floor_43 : decode cX1_floor 43 = .ok (.invokestatic 93, 3) := by decide +kernel
theorem dX1_floor_46 : decode cX1_floor 46 = .ok (.ireturn, 1) := by decide +kernel
theorem dX1_lays_0 : decode cX1_lays 0 = .ok (.aload_n 0, 1) := by decide +kernel
theorem dX1_lays_1 : decode cX1_lays 1 = .ok (.getfield 10, 3) := by decide +kernel
theorem dX1_lays_4 : decode cX1_lays 4 = .ok (.getfield 98, 3) := by decide +kernel
theorem dX1_lays_7 : decode cX1_lays 7 = .ok (.ifCond .eq 10, 3) := by decide +kernel
theorem dX1_lays_10 : decode cX1_lays 10 = .ok (.aload_n 0, 1) := by decide +kernel
theorem dX1_lays_11 : decode cX1_lays 11 = .ok (.bipush (-3), 2) := by decide +kernel
theorem dX1_lays_13 : decode cX1_lays 13 = .ok (.invokevirtual 43, 3) := by decide +kernel
theorem dX1_lays_16 : decode cX1_lays 16 = .ok (.ireturn, 1) := by decide +kernel
theorem dX1_lays_17 : decode cX1_lays 17 = .ok (.aload_n 0, 1) := by decide +kernel
theorem dX1_lays_18 : decode cX1_lays 18 = .ok (.getfield 10, 3) := by decide +kernel
theorem dX1_lays_21 : decode cX1_lays 21 = .ok (.iconst 1, 1) := by decide +kernel
theorem dX1_lays_22 : decode cX1_lays 22 = .ok (.putfield 98, 3) := by decide +kernel
theorem dX1_lays_25 : decode cX1_lays 25 = .ok (.aload_n 0, 1) := by decide +kernel
theorem dX1_lays_26 : decode cX1_lays 26 = .ok (.getfield 10, 3) := by decide +kernel
theorem dX1_lays_29 : decode cX1_lays 29 = .ok (.invokevirtual 105, 3) := by decide +kernel
theorem dX1_lays_32 : decode cX1_lays 32 = .ok (.ireturn, 1) := by decide +kernel
theorem dX1_setsUp_0 : decode cX1_setsUp 0 = .ok (.aload_n 0, 1) := by decide +kernel
theorem dX1_setsUp_1 : decode cX1_setsUp 1 = .ok (.iload_n 1, 1) := by decide +kernel
theorem dX1_setsUp_2 : decode cX1_setsUp 2 = .ok (.aload_n 0, 1) := by decide +kernel
theorem dX1_setsUp_3 : decode cX1_setsUp 3 = .ok (.getfield 10, 3) := by decide +kernel
theorem dX1_setsUp_6 : decode cX1_setsUp 6 = .ok (.iload_n 1, 1) := by decide +kernel
theorem dX1_setsUp_7 : decode cX1_setsUp 7 = .ok (.invokevirtual 108, 3) := by decide +kernel
theorem dX1_setsUp_10 : decode cX1_setsUp 10 = .ok (.ifCond .eq 7, 3) := by decide +kernel
theorem dX1_setsUp_13 : decode cX1_setsUp 13 = .ok (.iconst 0, 1) := by decide +kernel
theorem dX1_setsUp_14 : decode cX1_setsUp 14 = .ok (.goto 5, 3) := by decide +kernel
theorem dX1_setsUp_17 : decode cX1_setsUp 17 = .ok (.bipush (-3), 2) := by decide +kernel
theorem dX1_setsUp_19 : decode cX1_setsUp 19 = .ok (.invokevirtual 55, 3) := by decide +kernel
theorem dX1_setsUp_22 : decode cX1_setsUp 22 = .ok (.istore_n 2, 1) := by decide +kernel
theorem dX1_setsUp_23 : decode cX1_setsUp 23 = .ok (.iload_n 2, 1) := by decide +kernel
theorem dX1_setsUp_24 : decode cX1_setsUp 24 = .ok (.ifCond .eq 9, 3) := by decide +kernel
theorem dX1_setsUp_27 : decode cX1_setsUp 27 = .ok (.aload_n 0, 1) := by decide +kernel
theorem dX1_setsUp_28 : decode cX1_setsUp 28 = .ok (.iload_n 2, 1) := by decide +kernel
theorem dX1_setsUp_29 : decode cX1_setsUp 29 = .ok (.invokevirtual 43, 3) := by decide +kernel
theorem dX1_setsUp_32 : decode cX1_setsUp 32 = .ok (.ireturn, 1) := by decide +kernel
theorem dX1_setsUp_33 : decode cX1_setsUp 33 = .ok (.aload_n 0, 1) := by decide +kernel
theorem dX1_setsUp_34 : decode cX1_setsUp 34 = .ok (.getfield 10, 3) := by decide +kernel
theorem dX1_setsUp_37 : decode cX1_setsUp 37 = .ok (.iload_n 1, 1) := by decide +kernel
theorem dX1_setsUp_38 : decode cX1_setsUp 38 = .ok (.invokevirtual 111, 3) := by decide +kernel
theorem dX1_setsUp_41 : decode cX1_setsUp 41 = .ok (.aload_n 0, 1) := by decide +kernel
theorem dX1_setsUp_42 : decode cX1_setsUp 42 = .ok (.getfield 10, 3) := by decide +kernel
theorem dX1_setsUp_45 : decode cX1_setsUp 45 = .ok (.iload_n 1, 1) := by decide +kernel
theorem dX1_setsUp_46 : decode cX1_setsUp 46 = .ok (.invokevirtual 79, 3) := by decide +kernel
theorem dX1_setsUp_49 : decode cX1_setsUp 49 = .ok (.invokestatic 83, 3) := by decide +kernel
theorem dX1_setsUp_52 : decode cX1_setsUp 52 = .ok (.ireturn, 1) := by decide +kernel
theorem dX1_turn_0 : decode cX1_turn 0 = .ok (.iload_n 2, 1) := by decide +kernel
theorem dX1_turn_1 : decode cX1_turn 1 = .ok (.iconst 5, 1) := by decide +kernel
theorem dX1_turn_2 : decode cX1_turn 2 = .ok (.invokestatic 51, 3) := by decide +kernel
theorem dX1_turn_5 : decode cX1_turn 5 = .ok (.iload_n 3, 1) := by decide +kernel
theorem dX1_turn_6 : decode cX1_turn 6 = .ok (.iconst 0, 1) := by decide +kernel
theorem dX1_turn_7 : decode cX1_turn 7 = .ok (.bipush 9, 2) := by decide +kernel
theorem dX1_turn_9 : decode cX1_turn 9 = .ok (.invokestatic 35, 3) := by decide +kernel
theorem dX1_turn_12 : decode cX1_turn 12 = .ok (.invokestatic 115, 3) := by decide +kernel
theorem dX1_turn_15 : decode cX1_turn 15 = .ok (.istore 4, 2) := by decide +kernel
theorem dX1_turn_17 : decode cX1_turn 17 = .ok (.aload_n 0, 1) := by decide +kernel
theorem dX1_turn_18 : decode cX1_turn 18 = .ok (.iload_n 1, 1) := by decide +kernel
theorem dX1_turn_19 : decode cX1_turn 19 = .ok (.iload 4, 2) := by decide +kernel
theorem dX1_turn_21 : decode cX1_turn 21 = .ok (.invokevirtual 55, 3) := by decide +kernel
theorem dX1_turn_24 : decode cX1_turn 24 = .ok (.istore 5, 2) := by decide +kernel
theorem dX1_turn_26 : decode cX1_turn 26 = .ok (.iload 5, 2) := by decide +kernel
theorem dX1_turn_28 : decode cX1_turn 28 = .ok (.ifCond .eq 10, 3) := by decide +kernel
theorem dX1_turn_31 : decode cX1_turn 31 = .ok (.aload_n 0, 1) := by decide +kernel
theorem dX1_turn_32 : decode cX1_turn 32 = .ok (.iload 5, 2) := by decide +kernel
theorem dX1_turn_34 : decode cX1_turn 34 = .ok (.invokevirtual 43, 3) := by decide +kernel
theorem dX1_turn_37 : decode cX1_turn 37 = .ok (.ireturn, 1) := by decide +kernel
theorem dX1_turn_38 : decode cX1_turn 38 = .ok (.bipush 10, 2) := by decide +kernel
theorem dX1_turn_40 : decode cX1_turn 40 = .ok (.aload_n 0, 1) := by decide +kernel
theorem dX1_turn_41 : decode cX1_turn 41 = .ok (.getfield 10, 3) := by decide +kernel
theorem dX1_turn_44 : decode cX1_turn 44 = .ok (.getfield 58, 3) := by decide +kernel
theorem dX1_turn_47 : decode cX1_turn 47 = .ok (.iload_n 1, 1) := by decide +kernel
theorem dX1_turn_48 : decode cX1_turn 48 = .ok (.iaload, 1) := by decide +kernel
theorem dX1_turn_49 : decode cX1_turn 49 = .ok (.imul, 1) := by decide +kernel
theorem dX1_turn_50 : decode cX1_turn 50 = .ok (.aload_n 0, 1) := by decide +kernel
theorem dX1_turn_51 : decode cX1_turn 51 = .ok (.getfield 10, 3) := by decide +kernel
theorem dX1_turn_54 : decode cX1_turn 54 = .ok (.getfield 61, 3) := by decide +kernel
theorem dX1_turn_57 : decode cX1_turn 57 = .ok (.iload_n 1, 1) := by decide +kernel
theorem dX1_turn_58 : decode cX1_turn 58 = .ok (.iaload, 1) := by decide +kernel
theorem dX1_turn_59 : decode cX1_turn 59 = .ok (.iadd, 1) := by decide +kernel
theorem dX1_turn_60 : decode cX1_turn 60 = .ok (.istore 6, 2) := by decide +kernel
theorem dX1_turn_62 : decode cX1_turn 62 = .ok (.aload_n 0, 1) := by decide +kernel
theorem dX1_turn_63 : decode cX1_turn 63 = .ok (.getfield 10, 3) := by decide +kernel
theorem dX1_turn_66 : decode cX1_turn 66 = .ok (.iload_n 1, 1) := by decide +kernel
theorem dX1_turn_67 : decode cX1_turn 67 = .ok (.iload_n 2, 1) := by decide +kernel
theorem dX1_turn_68 : decode cX1_turn 68 = .ok (.iload_n 3, 1) := by decide +kernel
theorem dX1_turn_69 : decode cX1_turn 69 = .ok (.invokevirtual 118, 3) := by decide +kernel
theorem dX1_turn_72 : decode cX1_turn 72 = .ok (.iload 6, 2) := by decide +kernel
theorem dX1_turn_74 : decode cX1_turn 74 = .ok (.ireturn, 1) := by decide +kernel
theorem dX1_minutes_0 : decode cX1_minutes 0 = .ok (.iload_n 1, 1) := by decide +kernel
theorem dX1_minutes_1 : decode cX1_minutes 1 = .ok (.iconst 1, 1) := by decide +kernel
theorem dX1_minutes_2 : decode cX1_minutes 2 = .ok (.bipush 60, 2) := by decide +kernel
theorem dX1_minutes_4 : decode cX1_minutes 4 = .ok (.invokestatic 35, 3) := by decide +kernel
theorem dX1_minutes_7 : decode cX1_minutes 7 = .ok (.istore_n 2, 1) := by decide +kernel
theorem dX1_minutes_8 : decode cX1_minutes 8 = .ok (.iload_n 2, 1) := by decide +kernel
theorem dX1_minutes_9 : decode cX1_minutes 9 = .ok (.ifCond .ne 17, 3) := by decide +kernel
theorem dX1_minutes_12 : decode cX1_minutes 12 = .ok (.aload_n 0, 1) := by decide +kernel
theorem dX1_minutes_13 : decode cX1_minutes 13 = .ok (.getfield 10, 3) := by decide +kernel
theorem dX1_minutes_16 : decode cX1_minutes 16 = .ok (.iload_n 1, 1) := by decide +kernel
theorem dX1_minutes_17 : decode cX1_minutes 17 = .ok (.invokevirtual 122, 3) := by decide +kernel
theorem dX1_minutes_20 : decode cX1_minutes 20 = .ok (.ifCond .ne 6, 3) := by decide +kernel
theorem dX1_minutes_23 : decode cX1_minutes 23 = .ok (.bipush (-6), 2) := by decide +kernel
theorem dX1_minutes_25 : decode cX1_minutes 25 = .ok (.istore_n 2, 1) := by decide +kernel
theorem dX1_minutes_26 : decode cX1_minutes 26 = .ok (.iload_n 2, 1) := by decide +kernel
theorem dX1_minutes_27 : decode cX1_minutes 27 = .ok (.ifCond .eq 9, 3) := by decide +kernel
theorem dX1_minutes_30 : decode cX1_minutes 30 = .ok (.aload_n 0, 1) := by decide +kernel
theorem dX1_minutes_31 : decode cX1_minutes 31 = .ok (.iload_n 2, 1) := by decide +kernel
theorem dX1_minutes_32 : decode cX1_minutes 32 = .ok (.invokevirtual 43, 3) := by decide +kernel
theorem dX1_minutes_35 : decode cX1_minutes 35 = .ok (.ireturn, 1) := by decide +kernel
theorem dX1_minutes_36 : decode cX1_minutes 36 = .ok (.aload_n 0, 1) := by decide +kernel
theorem dX1_minutes_37 : decode cX1_minutes 37 = .ok (.getfield 10, 3) := by decide +kernel
theorem dX1_minutes_40 : decode cX1_minutes 40 = .ok (.iload_n 1, 1) := by decide +kernel
theorem dX1_minutes_41 : decode cX1_minutes 41 = .ok (.invokevirtual 125, 3) := by decide +kernel
theorem dX1_minutes_44 : decode cX1_minutes 44 = .ok (.aload_n 0, 1) := by decide +kernel
theorem dX1_minutes_45 : decode cX1_minutes 45 = .ok (.getfield 10, 3) := by decide +kernel
theorem dX1_minutes_48 : decode cX1_minutes 48 = .ok (.invokevirtual 128, 3) := by decide +kernel
theorem dX1_minutes_51 : decode cX1_minutes 51 = .ok (.ireturn, 1) := by decide +kernel
theorem dX1_behind_0 : decode cX1_behind 0 = .ok (.iload_n 2, 1) := by decide +kernel
theorem dX1_behind_1 : decode cX1_behind 1 = .ok (.iconst 0, 1) := by decide +kernel
theorem dX1_behind_2 : decode cX1_behind 2 = .ok (.bipush 99, 2) := by decide +kernel
theorem dX1_behind_4 : decode cX1_behind 4 = .ok (.invokestatic 35, 3) := by decide +kernel
theorem dX1_behind_7 : decode cX1_behind 7 = .ok (.iload_n 3, 1) := by decide +kernel
theorem dX1_behind_8 : decode cX1_behind 8 = .ok (.iconst 2, 1) := by decide +kernel
theorem dX1_behind_9 : decode cX1_behind 9 = .ok (.invokestatic 51, 3) := by decide +kernel
theorem dX1_behind_12 : decode cX1_behind 12 = .ok (.invokestatic 115, 3) := by decide +kernel
theorem dX1_behind_15 : decode cX1_behind 15 = .ok (.istore 4, 2) := by decide +kernel
theorem dX1_behind_17 : decode cX1_behind 17 = .ok (.aload_n 0, 1) := by decide +kernel
theorem dX1_behind_18 : decode cX1_behind 18 = .ok (.iload_n 1, 1) := by decide +kernel
theorem dX1_behind_19 : decode cX1_behind 19 = .ok (.iload 4, 2) := by decide +kernel
theorem dX1_behind_21 : decode cX1_behind 21 = .ok (.invokevirtual 55, 3) := by decide +kernel
theorem dX1_behind_24 : decode cX1_behind 24 = .ok (.istore 5, 2) := by decide +kernel
theorem dX1_behind_26 : decode cX1_behind 26 = .ok (.iload 5, 2) := by decide +kernel
theorem dX1_behind_28 : decode cX1_behind 28 = .ok (.ifCond .eq 10, 3) := by decide +kernel
theorem dX1_behind_31 : decode cX1_behind 31 = .ok (.aload_n 0, 1) := by decide +kernel
theorem dX1_behind_32 : decode cX1_behind 32 = .ok (.iload 5, 2) := by decide +kernel
theorem dX1_behind_34 : decode cX1_behind 34 = .ok (.invokevirtual 43, 3) := by decide +kernel
theorem dX1_behind_37 : decode cX1_behind 37 = .ok (.ireturn, 1) := by decide +kernel
theorem dX1_behind_38 : decode cX1_behind 38 = .ok (.aload_n 0, 1) := by decide +kernel
theorem dX1_behind_39 : decode cX1_behind 39 = .ok (.getfield 16, 3) := by decide +kernel
theorem dX1_behind_42 : decode cX1_behind 42 = .ok (.aload_n 0, 1) := by decide +kernel
theorem dX1_behind_43 : decode cX1_behind 43 = .ok (.getfield 10, 3) := by decide +kernel
theorem dX1_behind_46 : decode cX1_behind 46 = .ok (.invokevirtual 131, 3) := by decide +kernel
theorem dX1_behind_49 : decode cX1_behind 49 = .ok (.aload_n 0, 1) := by decide +kernel
theorem dX1_behind_50 : decode cX1_behind 50 = .ok (.getfield 16, 3) := by decide +kernel
theorem dX1_behind_53 : decode cX1_behind 53 = .ok (.iload_n 2, 1) := by decide +kernel
theorem dX1_behind_54 : decode cX1_behind 54 = .ok (.invokevirtual 125, 3) := by decide +kernel
theorem dX1_behind_57 : decode cX1_behind 57 = .ok (.iload_n 3, 1) := by decide +kernel
theorem dX1_behind_58 : decode cX1_behind 58 = .ok (.lookupswitch 45 #[(0, 26), (1, 35)], 26) := by decide +kernel
theorem dX1_behind_84 : decode cX1_behind 84 = .ok (.aload_n 0, 1) := by decide +kernel
theorem dX1_behind_85 : decode cX1_behind 85 = .ok (.getfield 16, 3) := by decide +kernel
theorem dX1_behind_88 : decode cX1_behind 88 = .ok (.iload_n 1, 1) := by decide +kernel
theorem dX1_behind_89 : decode cX1_behind 89 = .ok (.invokevirtual 67, 3) := by decide +kernel
theorem dX1_behind_92 : decode cX1_behind 92 = .ok (.ireturn, 1) := by decide +kernel
theorem dX1_behind_93 : decode cX1_behind 93 = .ok (.aload_n 0, 1) := by decide +kernel
theorem dX1_behind_94 : decode cX1_behind 94 = .ok (.getfield 16, 3) := by decide +kernel
theorem dX1_behind_97 : decode cX1_behind 97 = .ok (.getfield 70, 3) := by decide +kernel
theorem dX1_behind_100 : decode cX1_behind 100 = .ok (.iload_n 1, 1) := by decide +kernel
theorem dX1_behind_101 : decode cX1_behind 101 = .ok (.iaload, 1) := by decide +kernel
theorem dX1_behind_102 : decode cX1_behind 102 = .ok (.ireturn, 1) := by decide +kernel
theorem dX1_behind_103 : decode cX1_behind 103 = .ok (.aload_n 0, 1) := by decide +kernel
theorem dX1_behind_104 : decode cX1_behind 104 = .ok (.getfield 16, 3) := by decide +kernel
theorem dX1_behind_107 : decode cX1_behind 107 = .ok (.invokevirtual 128, 3) := by decide +kernel
theorem dX1_behind_110 : decode cX1_behind 110 = .ok (.ireturn, 1) := by decide +kernel
theorem dX1_falls_0 : decode cX1_falls 0 = .ok (.aload_n 0, 1) := by decide +kernel
theorem dX1_falls_1 : decode cX1_falls 1 = .ok (.iload_n 1, 1) := by decide +kernel
theorem dX1_falls_2 : decode cX1_falls 2 = .ok (.iconst 0, 1) := by decide +kernel
theorem dX1_falls_3 : decode cX1_falls 3 = .ok (.invokevirtual 55, 3) := by decide +kernel
theorem dX1_falls_6 : decode cX1_falls 6 = .ok (.istore_n 2, 1) := by decide +kernel
theorem dX1_falls_7 : decode cX1_falls 7 = .ok (.iload_n 2, 1) := by decide +kernel
theorem dX1_falls_8 : decode cX1_falls 8 = .ok (.ifCond .eq 9, 3) := by decide +kernel
theorem dX1_falls_11 : decode cX1_falls 11 = .ok (.aload_n 0, 1) := by decide +kernel
theorem dX1_falls_12 : decode cX1_falls 12 = .ok (.iload_n 2, 1) := by decide +kernel
theorem dX1_falls_13 : decode cX1_falls 13 = .ok (.invokevirtual 43, 3) := by decide +kernel
theorem dX1_falls_16 : decode cX1_falls 16 = .ok (.ireturn, 1) := by decide +kernel
theorem dX1_falls_17 : decode cX1_falls 17 = .ok (.aload_n 0, 1) := by decide +kernel
theorem dX1_falls_18 : decode cX1_falls 18 = .ok (.getfield 16, 3) := by decide +kernel
theorem dX1_falls_21 : decode cX1_falls 21 = .ok (.aload_n 0, 1) := by decide +kernel
theorem dX1_falls_22 : decode cX1_falls 22 = .ok (.getfield 10, 3) := by decide +kernel
theorem dX1_falls_25 : decode cX1_falls 25 = .ok (.invokevirtual 131, 3) := by decide +kernel
theorem dX1_falls_28 : decode cX1_falls 28 = .ok (.aload_n 0, 1) := by decide +kernel
theorem dX1_falls_29 : decode cX1_falls 29 = .ok (.invokevirtual 135, 3) := by decide +kernel
theorem dX1_falls_32 : decode cX1_falls 32 = .ok (.aload_n 0, 1) := by decide +kernel
theorem dX1_falls_33 : decode cX1_falls 33 = .ok (.getfield 32, 3) := by decide +kernel
theorem dX1_falls_36 : decode cX1_falls 36 = .ok (.iload_n 1, 1) := by decide +kernel
theorem dX1_falls_37 : decode cX1_falls 37 = .ok (.iaload, 1) := by decide +kernel
theorem dX1_falls_38 : decode cX1_falls 38 = .ok (.ireturn, 1) := by decide +kernel
theorem dX1_first_0 : decode cX1_first 0 = .ok (.iload_n 1, 1) := by decide +kernel
theorem dX1_first_1 : decode cX1_first 1 = .ok (.iconst 1, 1) := by decide +kernel
theorem dX1_first_2 : decode cX1_first 2 = .ok (.invokestatic 51, 3) := by decide +kernel
theorem dX1_first_5 : decode cX1_first 5 = .ok (.istore_n 2, 1) := by decide +kernel
theorem dX1_first_6 : decode cX1_first 6 = .ok (.iload_n 2, 1) := by decide +kernel
theorem dX1_first_7 : decode cX1_first 7 = .ok (.ifCond .eq 9, 3) := by decide +kernel
theorem dX1_first_10 : decode cX1_first 10 = .ok (.aload_n 0, 1) := by decide +kernel
theorem dX1_first_11 : decode cX1_first 11 = .ok (.iload_n 2, 1) := by decide +kernel
theorem dX1_first_12 : decode cX1_first 12 = .ok (.invokevirtual 43, 3) := by decide +kernel
theorem dX1_first_15 : decode cX1_first 15 = .ok (.ireturn, 1) := by decide +kernel
theorem dX1_first_16 : decode cX1_first 16 = .ok (.aload_n 0, 1) := by decide +kernel
theorem dX1_first_17 : decode cX1_first 17 = .ok (.invokevirtual 138, 3) := by decide +kernel
theorem dX1_first_20 : decode cX1_first 20 = .ok (.istore_n 3, 1) := by decide +kernel
theorem dX1_first_21 : decode cX1_first 21 = .ok (.iload_n 3, 1) := by decide +kernel
theorem dX1_first_22 : decode cX1_first 22 = .ok (.bipush (-9), 2) := by decide +kernel
theorem dX1_first_24 : decode cX1_first 24 = .ok (.if_icmp .eq 7, 3) := by decide +kernel
theorem dX1_first_27 : decode cX1_first 27 = .ok (.iload_n 1, 1) := by decide +kernel
theorem dX1_first_28 : decode cX1_first 28 = .ok (.ifCond .ne 7, 3) := by decide +kernel
theorem dX1_first_31 : decode cX1_first 31 = .ok (.iload_n 3, 1) := by decide +kernel
theorem dX1_first_32 : decode cX1_first 32 = .ok (.goto 9, 3) := by decide +kernel
theorem dX1_first_35 : decode cX1_first 35 = .ok (.aload_n 0, 1) := by decide +kernel
theorem dX1_first_36 : decode cX1_first 36 = .ok (.getfield 32, 3) := by decide +kernel
theorem dX1_first_39 : decode cX1_first 39 = .ok (.iload_n 3, 1) := by decide +kernel
theorem dX1_first_40 : decode cX1_first 40 = .ok (.iaload, 1) := by decide +kernel
theorem dX1_first_41 : decode cX1_first 41 = .ok (.ireturn, 1) := by decide +kernel
theorem dX1_allStand_0 : decode cX1_allStand 0 = .ok (.aload_n 0, 1) := by decide +kernel
theorem dX1_allStand_1 : decode cX1_allStand 1 = .ok (.invokevirtual 138, 3) := by decide +kernel
theorem dX1_allStand_4 : decode cX1_allStand 4 = .ok (.istore_n 1, 1) := by decide +kernel
theorem dX1_allStand_5 : decode cX1_allStand 5 = .ok (.iload_n 1, 1) := by decide +kernel
theorem dX1_allStand_6 : decode cX1_allStand 6 = .ok (.bipush (-9), 2) := by decide +kernel
theorem dX1_allStand_8 : decode cX1_allStand 8 = .ok (.if_icmp .ne 8, 3) := by decide +kernel
theorem dX1_allStand_11 : decode cX1_allStand 11 = .ok (.bipush 99, 2) := by decide +kernel
theorem dX1_allStand_13 : decode cX1_allStand 13 = .ok (.goto 11, 3) := by decide +kernel
theorem dX1_allStand_16 : decode cX1_allStand 16 = .ok (.aload_n 0, 1) := by decide +kernel
theorem dX1_allStand_17 : decode cX1_allStand 17 = .ok (.getfield 32, 3) := by decide +kernel
theorem dX1_allStand_20 : decode cX1_allStand 20 = .ok (.iload_n 1, 1) := by decide +kernel
theorem dX1_allStand_21 : decode cX1_allStand 21 = .ok (.iaload, 1) := by decide +kernel
theorem dX1_allStand_22 : decode cX1_allStand 22 = .ok (.iconst 1, 1) := by decide +kernel
theorem dX1_allStand_23 : decode cX1_allStand 23 = .ok (.isub, 1) := by decide +kernel
theorem dX1_allStand_24 : decode cX1_allStand 24 = .ok (.ireturn, 1) := by decide +kernel
theorem dX1_tower_0 : decode cX1_tower 0 = .ok (.aload_n 0, 1) := by decide +kernel
theorem dX1_tower_1 : decode cX1_tower 1 = .ok (.iload_n 1, 1) := by decide +kernel
theorem dX1_tower_2 : decode cX1_tower 2 = .ok (.iload_n 2, 1) := by decide +kernel
theorem dX1_tower_3 : decode cX1_tower 3 = .ok (.iconst 2, 1) := by decide +kernel
theorem dX1_tower_4 : decode cX1_tower 4 = .ok (.invokestatic 51, 3) := by decide +kernel
theorem dX1_tower_7 : decode cX1_tower 7 = .ok (.invokevirtual 55, 3) := by decide +kernel
theorem dX1_tower_10 : decode cX1_tower 10 = .ok (.istore_n 3, 1) := by decide +kernel
theorem dX1_tower_11 : decode cX1_tower 11 = .ok (.iload_n 3, 1) := by decide +kernel
theorem dX1_tower_12 : decode cX1_tower 12 = .ok (.ifCond .eq 9, 3) := by decide +kernel
theorem dX1_tower_15 : decode cX1_tower 15 = .ok (.aload_n 0, 1) := by decide +kernel
theorem dX1_tower_16 : decode cX1_tower 16 = .ok (.iload_n 3, 1) := by decide +kernel
theorem dX1_tower_17 : decode cX1_tower 17 = .ok (.invokevirtual 43, 3) := by decide +kernel
theorem dX1_tower_20 : decode cX1_tower 20 = .ok (.ireturn, 1) := by decide +kernel
theorem dX1_tower_21 : decode cX1_tower 21 = .ok (.iload_n 2, 1) := by decide +kernel
theorem dX1_tower_22 : decode cX1_tower 22 = .ok (.lookupswitch 44 #[(0, 26), (1, 35)], 26) := by decide +kernel
theorem dX1_tower_48 : decode cX1_tower 48 = .ok (.aload_n 0, 1) := by decide +kernel
theorem dX1_tower_49 : decode cX1_tower 49 = .ok (.getfield 10, 3) := by decide +kernel
theorem dX1_tower_52 : decode cX1_tower 52 = .ok (.iload_n 1, 1) := by decide +kernel
theorem dX1_tower_53 : decode cX1_tower 53 = .ok (.invokevirtual 141, 3) := by decide +kernel
theorem dX1_tower_56 : decode cX1_tower 56 = .ok (.ireturn, 1) := by decide +kernel
theorem dX1_tower_57 : decode cX1_tower 57 = .ok (.aload_n 0, 1) := by decide +kernel
theorem dX1_tower_58 : decode cX1_tower 58 = .ok (.getfield 10, 3) := by decide +kernel
theorem dX1_tower_61 : decode cX1_tower 61 = .ok (.iload_n 1, 1) := by decide +kernel
theorem dX1_tower_62 : decode cX1_tower 62 = .ok (.invokevirtual 144, 3) := by decide +kernel
theorem dX1_tower_65 : decode cX1_tower 65 = .ok (.ireturn, 1) := by decide +kernel
theorem dX1_tower_66 : decode cX1_tower 66 = .ok (.aload_n 0, 1) := by decide +kernel
theorem dX1_tower_67 : decode cX1_tower 67 = .ok (.getfield 10, 3) := by decide +kernel
theorem dX1_tower_70 : decode cX1_tower 70 = .ok (.iload_n 1, 1) := by decide +kernel
theorem dX1_tower_71 : decode cX1_tower 71 = .ok (.invokevirtual 147, 3) := by decide +kernel
theorem dX1_tower_74 : decode cX1_tower 74 = .ok (.ireturn, 1) := by decide +kernel
theorem dX1_leastSpeed_0 : decode cX1_leastSpeed 0 = .ok (.aload_n 0, 1) := by decide +kernel
theorem dX1_leastSpeed_1 : decode cX1_leastSpeed 1 = .ok (.iload_n 1, 1) := by decide +kernel
theorem dX1_leastSpeed_2 : decode cX1_leastSpeed 2 = .ok (.iconst 0, 1) := by decide +kernel
theorem dX1_leastSpeed_3 : decode cX1_leastSpeed 3 = .ok (.invokevirtual 87, 3) := by decide +kernel
theorem dX1_leastSpeed_6 : decode cX1_leastSpeed 6 = .ok (.istore_n 2, 1) := by decide +kernel
theorem dX1_leastSpeed_7 : decode cX1_leastSpeed 7 = .ok (.iload_n 2, 1) := by decide +kernel
theorem dX1_leastSpeed_8 : decode cX1_leastSpeed 8 = .ok (.ifCond .eq 9, 3) := by decide +kernel
theorem dX1_leastSpeed_11 : decode cX1_leastSpeed 11 = .ok (.aload_n 0, 1) := by decide +kernel
theorem dX1_leastSpeed_12 : decode cX1_leastSpeed 12 = .ok (.iload_n 2, 1) := by decide +kernel
theorem dX1_leastSpeed_13 : decode cX1_leastSpeed 13 = .ok (.invokevirtual 43, 3) := by decide +kernel
theorem dX1_leastSpeed_16 : decode cX1_leastSpeed 16 = .ok (.ireturn, 1) := by decide +kernel
theorem dX1_leastSpeed_17 : decode cX1_leastSpeed 17 = .ok (.iconst 0, 1) := by decide +kernel
theorem dX1_leastSpeed_18 : decode cX1_leastSpeed 18 = .ok (.istore_n 3, 1) := by decide +kernel
theorem dX1_leastSpeed_19 : decode cX1_leastSpeed 19 = .ok (.iload_n 3, 1) := by decide +kernel
theorem dX1_leastSpeed_20 : decode cX1_leastSpeed 20 = .ok (.bipush 9, 2) := by decide +kernel
theorem dX1_leastSpeed_22 : decode cX1_leastSpeed 22 = .ok (.if_icmp .gt 23, 3) := by decide +kernel
theorem dX1_leastSpeed_25 : decode cX1_leastSpeed 25 = .ok (.aload_n 0, 1) := by decide +kernel
theorem dX1_leastSpeed_26 : decode cX1_leastSpeed 26 = .ok (.getfield 10, 3) := by decide +kernel
theorem dX1_leastSpeed_29 : decode cX1_leastSpeed 29 = .ok (.iload_n 1, 1) := by decide +kernel
theorem dX1_leastSpeed_30 : decode cX1_leastSpeed 30 = .ok (.iload_n 3, 1) := by decide +kernel
theorem dX1_leastSpeed_31 : decode cX1_leastSpeed 31 = .ok (.invokevirtual 150, 3) := by decide +kernel
theorem dX1_leastSpeed_34 : decode cX1_leastSpeed 34 = .ok (.ifCond .ne 5, 3) := by decide +kernel
theorem dX1_leastSpeed_37 : decode cX1_leastSpeed 37 = .ok (.iload_n 3, 1) := by decide +kernel
theorem dX1_leastSpeed_38 : decode cX1_leastSpeed 38 = .ok (.ireturn, 1) := by decide +kernel
theorem dX1_leastSpeed_39 : decode cX1_leastSpeed 39 = .ok (.iinc 3 1, 3) := by decide +kernel
theorem dX1_leastSpeed_42 : decode cX1_leastSpeed 42 = .ok (.goto (-23), 3) := by decide +kernel
theorem dX1_leastSpeed_45 : decode cX1_leastSpeed 45 = .ok (.bipush (-9), 2) := by decide +kernel
theorem dX1_leastSpeed_47 : decode cX1_leastSpeed 47 = .ok (.ireturn, 1) := by decide +kernel
theorem dX1_atOnce_0 : decode cX1_atOnce 0 = .ok (.aload_n 0, 1) := by decide +kernel
theorem dX1_atOnce_1 : decode cX1_atOnce 1 = .ok (.iload_n 1, 1) := by decide +kernel
theorem dX1_atOnce_2 : decode cX1_atOnce 2 = .ok (.iload_n 2, 1) := by decide +kernel
theorem dX1_atOnce_3 : decode cX1_atOnce 3 = .ok (.iconst 0, 1) := by decide +kernel
theorem dX1_atOnce_4 : decode cX1_atOnce 4 = .ok (.bipush 9, 2) := by decide +kernel
theorem dX1_atOnce_6 : decode cX1_atOnce 6 = .ok (.invokestatic 35, 3) := by decide +kernel
theorem dX1_atOnce_9 : decode cX1_atOnce 9 = .ok (.invokevirtual 87, 3) := by decide +kernel
theorem dX1_atOnce_12 : decode cX1_atOnce 12 = .ok (.istore_n 3, 1) := by decide +kernel
theorem dX1_atOnce_13 : decode cX1_atOnce 13 = .ok (.iload_n 3, 1) := by decide +kernel
theorem dX1_atOnce_14 : decode cX1_atOnce 14 = .ok (.ifCond .eq 11, 3) := by decide +kernel
theorem dX1_atOnce_17 : decode cX1_atOnce 17 = .ok (.aload_n 0, 1) := by decide +kernel
theorem dX1_atOnce_18 : decode cX1_atOnce 18 = .ok (.iload_n 3, 1) := by decide +kernel
theorem dX1_atOnce_19 : decode cX1_atOnce 19 = .ok (.invokevirtual 43, 3) := by decide +kernel
theorem dX1_atOnce_22 : decode cX1_atOnce 22 = .ok (.goto 12, 3) := by decide +kernel
theorem dX1_atOnce_25 : decode cX1_atOnce 25 = .ok (.aload_n 0, 1) := by decide +kernel
theorem dX1_atOnce_26 : decode cX1_atOnce 26 = .ok (.getfield 10, 3) := by decide +kernel
theorem dX1_atOnce_29 : decode cX1_atOnce 29 = .ok (.iload_n 1, 1) := by decide +kernel
theorem dX1_atOnce_30 : decode cX1_atOnce 30 = .ok (.iload_n 2, 1) := by decide +kernel
theorem dX1_atOnce_31 : decode cX1_atOnce 31 = .ok (.invokevirtual 150, 3) := by decide +kernel
theorem dX1_atOnce_34 : decode cX1_atOnce 34 = .ok (.ireturn, 1) := by decide +kernel
theorem dX1_later_0 : decode cX1_later 0 = .ok (.iload_n 2, 1) := by decide +kernel
theorem dX1_later_1 : decode cX1_later 1 = .ok (.ifCond .lt 7, 3) := by decide +kernel
theorem dX1_later_4 : decode cX1_later 4 = .ok (.iload_n 3, 1) := by decide +kernel
theorem dX1_later_5 : decode cX1_later 5 = .ok (.ifCond .ge 8, 3) := by decide +kernel
theorem dX1_later_8 : decode cX1_later 8 = .ok (.bipush (-4), 2) := by decide +kernel
theorem dX1_later_10 : decode cX1_later 10 = .ok (.goto 4, 3) := by decide +kernel
theorem dX1_later_13 : decode cX1_later 13 = .ok (.iconst 0, 1) := by decide +kernel
theorem dX1_later_14 : decode cX1_later 14 = .ok (.istore 4, 2) := by decide +kernel
theorem dX1_later_16 : decode cX1_later 16 = .ok (.iload_n 2, 1) := by decide +kernel
theorem dX1_later_17 : decode cX1_later 17 = .ok (.bipush 9, 2) := by decide +kernel
theorem dX1_later_19 : decode cX1_later 19 = .ok (.if_icmp .gt 9, 3) := by decide +kernel
theorem dX1_later_22 : decode cX1_later 22 = .ok (.iload_n 3, 1) := by decide +kernel
theorem dX1_later_23 : decode cX1_later 23 = .ok (.bipush 99, 2) := by decide +kernel
theorem dX1_later_25 : decode cX1_later 25 = .ok (.if_icmp .le 8, 3) := by decide +kernel
theorem dX1_later_28 : decode cX1_later 28 = .ok (.bipush (-6), 2) := by decide +kernel
theorem dX1_later_30 : decode cX1_later 30 = .ok (.goto 4, 3) := by decide +kernel
theorem dX1_later_33 : decode cX1_later 33 = .ok (.iconst 0, 1) := by decide +kernel
theorem dX1_later_34 : decode cX1_later 34 = .ok (.istore 5, 2) := by decide +kernel
theorem dX1_later_36 : decode cX1_later 36 = .ok (.aload_n 0, 1) := by decide +kernel
theorem dX1_later_37 : decode cX1_later 37 = .ok (.iload_n 1, 1) := by decide +kernel
theorem dX1_later_38 : decode cX1_later 38 = .ok (.iload 4, 2) := by decide +kernel
theorem dX1_later_40 : decode cX1_later 40 = .ok (.iload 5, 2) := by decide +kernel
theorem dX1_later_42 : decode cX1_later 42 = .ok (.invokestatic 115, 3) := by decide +kernel
theorem dX1_later_45 : decode cX1_later 45 = .ok (.invokevirtual 87, 3) := by decide +kernel
theorem dX1_later_48 : decode cX1_later 48 = .ok (.istore 6, 2) := by decide +kernel
theorem dX1_later_50 : decode cX1_later 50 = .ok (.iload 6, 2) := by decide +kernel
theorem dX1_later_52 : decode cX1_later 52 = .ok (.ifCond .eq 10, 3) := by decide +kernel
theorem dX1_later_55 : decode cX1_later 55 = .ok (.aload_n 0, 1) := by decide +kernel
theorem dX1_later_56 : decode cX1_later 56 = .ok (.iload 6, 2) := by decide +kernel
theorem dX1_later_58 : decode cX1_later 58 = .ok (.invokevirtual 43, 3) := by decide +kernel
theorem dX1_later_61 : decode cX1_later 61 = .ok (.ireturn, 1) := by decide +kernel
theorem dX1_later_62 : decode cX1_later 62 = .ok (.aload_n 0, 1) := by decide +kernel
theorem dX1_later_63 : decode cX1_later 63 = .ok (.getfield 16, 3) := by decide +kernel
theorem dX1_later_66 : decode cX1_later 66 = .ok (.aload_n 0, 1) := by decide +kernel
theorem dX1_later_67 : decode cX1_later 67 = .ok (.getfield 10, 3) := by decide +kernel
theorem dX1_later_70 : decode cX1_later 70 = .ok (.invokevirtual 131, 3) := by decide +kernel
theorem dX1_later_73 : decode cX1_later 73 = .ok (.aload_n 0, 1) := by decide +kernel
theorem dX1_later_74 : decode cX1_later 74 = .ok (.getfield 16, 3) := by decide +kernel
theorem dX1_later_77 : decode cX1_later 77 = .ok (.iload_n 3, 1) := by decide +kernel
theorem dX1_later_78 : decode cX1_later 78 = .ok (.invokevirtual 125, 3) := by decide +kernel
theorem dX1_later_81 : decode cX1_later 81 = .ok (.aload_n 0, 1) := by decide +kernel
theorem dX1_later_82 : decode cX1_later 82 = .ok (.getfield 16, 3) := by decide +kernel
theorem dX1_later_85 : decode cX1_later 85 = .ok (.getfield 153, 3) := by decide +kernel
theorem dX1_later_88 : decode cX1_later 88 = .ok (.istore 7, 2) := by decide +kernel
theorem dX1_later_90 : decode cX1_later 90 = .ok (.aload_n 0, 1) := by decide +kernel
theorem dX1_later_91 : decode cX1_later 91 = .ok (.getfield 16, 3) := by decide +kernel
theorem dX1_later_94 : decode cX1_later 94 = .ok (.aload_n 0, 1) := by decide +kernel
theorem dX1_later_95 : decode cX1_later 95 = .ok (.getfield 10, 3) := by decide +kernel
theorem dX1_later_98 : decode cX1_later 98 = .ok (.invokevirtual 131, 3) := by decide +kernel
theorem dX1_later_101 : decode cX1_later 101 = .ok (.aload_n 0, 1) := by decide +kernel
theorem dX1_later_102 : decode cX1_later 102 = .ok (.getfield 16, 3) := by decide +kernel
theorem dX1_later_105 : decode cX1_later 105 = .ok (.iload_n 1, 1) := by decide +kernel
theorem dX1_later_106 : decode cX1_later 106 = .ok (.iload_n 2, 1) := by decide +kernel
theorem dX1_later_107 : decode cX1_later 107 = .ok (.invokevirtual 90, 3) := by decide +kernel
theorem dX1_later_110 : decode cX1_later 110 = .ok (.istore 8, 2) := by decide +kernel
theorem dX1_later_112 : decode cX1_later 112 = .ok (.aload_n 0, 1) := by decide +kernel
theorem dX1_later_113 : decode cX1_later 113 = .ok (.getfield 16, 3) := by decide +kernel
theorem dX1_later_116 : decode cX1_later 116 = .ok (.iload_n 3, 1) := by decide +kernel
theorem dX1_later_117 : decode cX1_later 117 = .ok (.invokevirtual 125, 3) := by decide +kernel
theorem dX1_later_120 : decode cX1_later 120 = .ok (.aload_n 0, 1) := by decide +kernel
theorem dX1_later_121 : decode cX1_later 121 = .ok (.getfield 16, 3) := by decide +kernel
theorem dX1_later_124 : decode cX1_later 124 = .ok (.getfield 153, 3) := by decide +kernel
theorem dX1_later_127 : decode cX1_later 127 = .ok (.iload 8, 2) := by decide +kernel
theorem dX1_later_129 : decode cX1_later 129 = .ok (.iconst (-1), 1) := by decide +kernel
theorem dX1_later_130 : decode cX1_later 130 = .ok (.ixor, 1) := by decide +kernel
theorem dX1_later_131 : decode cX1_later 131 = .ok (.iand, 1) := by decide +kernel
theorem dX1_later_132 : decode cX1_later 132 = .ok (.iload 7, 2) := by decide +kernel
theorem dX1_later_134 : decode cX1_later 134 = .ok (.iconst (-1), 1) := by decide +kernel
theorem dX1_later_135 : decode cX1_later 135 = .ok (.ixor, 1) := by decide +kernel
theorem dX1_later_136 : decode cX1_later 136 = .ok (.iand, 1) := by decide +kernel
theorem dX1_later_137 : decode cX1_later 137 = .ok (.ireturn, 1) := by decide +kernel
theorem dX1_pullMost_0 : decode cX1_pullMost 0 = .ok (.iload_n 2, 1) := by decide +kernel
theorem dX1_pullMost_1 : decode cX1_pullMost 1 = .ok (.iconst 0, 1) := by decide +kernel
theorem dX1_pullMost_2 : decode cX1_pullMost 2 = .ok (.bipush 30, 2) := by decide +kernel
theorem dX1_pullMost_4 : decode cX1_pullMost 4 = .ok (.invokestatic 35, 3) := by decide +kernel
theorem dX1_pullMost_7 : decode cX1_pullMost 7 = .ok (.iload_n 3, 1) := by decide +kernel
theorem dX1_pullMost_8 : decode cX1_pullMost 8 = .ok (.iconst 1, 1) := by decide +kernel
theorem dX1_pullMost_9 : decode cX1_pullMost 9 = .ok (.invokestatic 51, 3) := by decide +kernel
theorem dX1_pullMost_12 : decode cX1_pullMost 12 = .ok (.invokestatic 115, 3) := by decide +kernel
theorem dX1_pullMost_15 : decode cX1_pullMost 15 = .ok (.istore 4, 2) := by decide +kernel
theorem dX1_pullMost_17 : decode cX1_pullMost 17 = .ok (.aload_n 0, 1) := by decide +kernel
theorem dX1_pullMost_18 : decode cX1_pullMost 18 = .ok (.iload_n 1, 1) := by decide +kernel
theorem dX1_pullMost_19 : decode cX1_pullMost 19 = .ok (.iload 4, 2) := by decide +kernel
theorem dX1_pullMost_21 : decode cX1_pullMost 21 = .ok (.invokevirtual 55, 3) := by decide +kernel
theorem dX1_pullMost_24 : decode cX1_pullMost 24 = .ok (.istore 5, 2) := by decide +kernel
theorem dX1_pullMost_26 : decode cX1_pullMost 26 = .ok (.iload 5, 2) := by decide +kernel
theorem dX1_pullMost_28 : decode cX1_pullMost 28 = .ok (.ifCond .eq 10, 3) := by decide +kernel
theorem dX1_pullMost_31 : decode cX1_pullMost 31 = .ok (.aload_n 0, 1) := by decide +kernel
theorem dX1_pullMost_32 : decode cX1_pullMost 32 = .ok (.iload 5, 2) := by decide +kernel
theorem dX1_pullMost_34 : decode cX1_pullMost 34 = .ok (.invokevirtual 43, 3) := by decide +kernel
theorem dX1_pullMost_37 : decode cX1_pullMost 37 = .ok (.ireturn, 1) := by decide +kernel
theorem dX1_pullMost_38 : decode cX1_pullMost 38 = .ok (.aload_n 0, 1) := by decide +kernel
theorem dX1_pullMost_39 : decode cX1_pullMost 39 = .ok (.getfield 10, 3) := by decide +kernel
theorem dX1_pullMost_42 : decode cX1_pullMost 42 = .ok (.getfield 156, 3) := by decide +kernel
theorem dX1_pullMost_45 : decode cX1_pullMost 45 = .ok (.iconst 1, 1) := by decide +kernel
theorem dX1_pullMost_46 : decode cX1_pullMost 46 = .ok (.iload_n 1, 1) := by decide +kernel
theorem dX1_pullMost_47 : decode cX1_pullMost 47 = .ok (.ishl, 1) := by decide +kernel
theorem dX1_pullMost_48 : decode cX1_pullMost 48 = .ok (.iconst (-1), 1) := by decide +kernel
theorem dX1_pullMost_49 : decode cX1_pullMost 49 = .ok (.ixor, 1) := by decide +kernel
theorem dX1_pullMost_50 : decode cX1_pullMost 50 = .ok (.iand, 1) := by decide +kernel
theorem dX1_pullMost_51 : decode cX1_pullMost 51 = .ok (.istore 6, 2) := by decide +kernel
theorem dX1_pullMost_53 : decode cX1_pullMost 53 = .ok (.bipush (-9), 2) := by decide +kernel
theorem dX1_pullMost_55 : decode cX1_pullMost 55 = .ok (.istore 7, 2) := by decide +kernel
theorem dX1_pullMost_57 : decode cX1_pullMost 57 = .ok (.bipush (-9), 2) := by decide +kernel
theorem dX1_pullMost_59 : decode cX1_pullMost 59 = .ok (.istore 8, 2) := by decide +kernel
theorem dX1_pullMost_61 : decode cX1_pullMost 61 = .ok (.iconst 0, 1) := by decide +kernel
theorem dX1_pullMost_62 : decode cX1_pullMost 62 = .ok (.istore 9, 2) := by decide +kernel
theorem dX1_pullMost_64 : decode cX1_pullMost 64 = .ok (.iload 9, 2) := by decide +kernel
theorem dX1_pullMost_66 : decode cX1_pullMost 66 = .ok (.iload 6, 2) := by decide +kernel
theorem dX1_pullMost_68 : decode cX1_pullMost 68 = .ok (.if_icmp .gt 52, 3) := by decide +kernel
theorem dX1_pullMost_71 : decode cX1_pullMost 71 = .ok (.iload 9, 2) := by decide +kernel
theorem dX1_pullMost_73 : decode cX1_pullMost 73 = .ok (.invokestatic 93, 3) := by decide +kernel
theorem dX1_pullMost_76 : decode cX1_pullMost 76 = .ok (.istore 10, 2) := by decide +kernel
theorem dX1_pullMost_78 : decode cX1_pullMost 78 = .ok (.iload 9, 2) := by decide +kernel
theorem dX1_pullMost_80 : decode cX1_pullMost 80 = .ok (.iload 6, 2) := by decide +kernel
theorem dX1_pullMost_82 : decode cX1_pullMost 82 = .ok (.iconst (-1), 1) := by decide +kernel
theorem dX1_pullMost_83 : decode cX1_pullMost 83 = .ok (.ixor, 1) := by decide +kernel
theorem dX1_pullMost_84 : decode cX1_pullMost 84 = .ok (.iand, 1) := by decide +kernel
theorem dX1_pullMost_85 : decode cX1_pullMost 85 = .ok (.ifCond .ne 29, 3) := by decide +kernel
theorem dX1_pullMost_88 : decode cX1_pullMost 88 = .ok (.iload 10, 2) := by decide +kernel
theorem dX1_pullMost_90 : decode cX1_pullMost 90 = .ok (.iload 7, 2) := by decide +kernel
theorem dX1_pullMost_92 : decode cX1_pullMost 92 = .ok (.if_icmp .le 22, 3) := by decide +kernel
theorem dX1_pullMost_95 : decode cX1_pullMost 95 = .ok (.aload_n 0, 1) := by decide +kernel
theorem dX1_pullMost_96 : decode cX1_pullMost 96 = .ok (.iload_n 1, 1) := by decide +kernel
theorem dX1_pullMost_97 : decode cX1_pullMost 97 = .ok (.iload 9, 2) := by decide +kernel
theorem dX1_pullMost_99 : decode cX1_pullMost 99 = .ok (.iload_n 2, 1) := by decide +kernel
theorem dX1_pullMost_100 : decode cX1_pullMost 100 = .ok (.invokevirtual 159, 3) := by decide +kernel
theorem dX1_pullMost_103 : decode cX1_pullMost 103 = .ok (.ifCond .eq 11, 3) := by decide +kernel
theorem dX1_pullMost_106 : decode cX1_pullMost 106 = .ok (.iload 10, 2) := by decide +kernel
theorem dX1_pullMost_108 : decode cX1_pullMost 108 = .ok (.istore 7, 2) := by decide +kernel
theorem dX1_pullMost_110 : decode cX1_pullMost 110 = .ok (.iload 9, 2) := by decide +kernel
theorem dX1_pullMost_112 : decode cX1_pullMost 112 = .ok (.istore 8, 2) := by decide +kernel
theorem dX1_pullMost_114 : decode cX1_pullMost 114 = .ok (.iinc 9 1, 3) := by decide +kernel
theorem dX1_pullMost_117 : decode cX1_pullMost 117 = .ok (.goto (-53), 3) := by decide +kernel
theorem dX1_pullMost_120 : decode cX1_pullMost 120 = .ok (.iload_n 3, 1) := by decide +kernel
theorem dX1_pullMost_121 : decode cX1_pullMost 121 = .ok (.ifCond .ne 8, 3) := by decide +kernel
theorem dX1_pullMost_124 : decode cX1_pullMost 124 = .ok (.iload 7, 2) := by decide +kernel
theorem dX1_pullMost_126 : decode cX1_pullMost 126 = .ok (.goto 5, 3) := by decide +kernel
theorem dX1_pullMost_129 : decode cX1_pullMost 129 = .ok (.iload 8, 2) := by decide +kernel
theorem dX1_pullMost_131 : decode cX1_pullMost 131 = .ok (.ireturn, 1) := by decide +kernel
theorem dX1_key_0 : decode cX1_key 0 = .ok (.iload_n 1, 1) := by decide +kernel
theorem dX1_key_1 : decode cX1_key 1 = .ok (.iconst 0, 1) := by decide +kernel
theorem dX1_key_2 : decode cX1_key 2 = .ok (.bipush 99, 2) := by decide +kernel
theorem dX1_key_4 : decode cX1_key 4 = .ok (.invokestatic 35, 3) := by decide +kernel
theorem dX1_key_7 : decode cX1_key 7 = .ok (.istore_n 2, 1) := by decide +kernel
theorem dX1_key_8 : decode cX1_key 8 = .ok (.iload_n 2, 1) := by decide +kernel
theorem dX1_key_9 : decode cX1_key 9 = .ok (.ifCond .eq 9, 3) := by decide +kernel
theorem dX1_key_12 : decode cX1_key 12 = .ok (.aload_n 0, 1) := by decide +kernel
theorem dX1_key_13 : decode cX1_key 13 = .ok (.iload_n 2, 1) := by decide +kernel
theorem dX1_key_14 : decode cX1_key 14 = .ok (.invokevirtual 43, 3) := by decide +kernel
theorem dX1_key_17 : decode cX1_key 17 = .ok (.ireturn, 1) := by decide +kernel
theorem dX1_key_18 : decode cX1_key 18 = .ok (.bipush (-9), 2) := by decide +kernel
theorem dX1_key_20 : decode cX1_key 20 = .ok (.istore_n 3, 1) := by decide +kernel
theorem dX1_key_21 : decode cX1_key 21 = .ok (.bipush 11, 2) := by decide +kernel
theorem dX1_key_23 : decode cX1_key 23 = .ok (.istore 4, 2) := by decide +kernel
theorem dX1_key_25 : decode cX1_key 25 = .ok (.iconst 0, 1) := by decide +kernel
theorem dX1_key_26 : decode cX1_key 26 = .ok (.istore 5, 2) := by decide +kernel
theorem dX1_key_28 : decode cX1_key 28 = .ok (.iload 5, 2) := by decide +kernel
theorem dX1_key_30 : decode cX1_key 30 = .ok (.aload_n 0, 1) := by decide +kernel
theorem dX1_key_31 : decode cX1_key 31 = .ok (.getfield 10, 3) := by decide +kernel
theorem dX1_key_34 : decode cX1_key 34 = .ok (.getfield 163, 3) := by decide +kernel
theorem dX1_key_37 : decode cX1_key 37 = .ok (.if_icmp .ge 76, 3) := by decide +kernel
theorem dX1_key_40 : decode cX1_key 40 = .ok (.aload_n 0, 1) := by decide +kernel
theorem dX1_key_41 : decode cX1_key 41 = .ok (.getfield 10, 3) := by decide +kernel
theorem dX1_key_44 : decode cX1_key 44 = .ok (.iload 5, 2) := by decide +kernel
theorem dX1_key_46 : decode cX1_key 46 = .ok (.invokevirtual 166, 3) := by decide +kernel
theorem dX1_key_49 : decode cX1_key 49 = .ok (.ifCond .eq 58, 3) := by decide +kernel
theorem dX1_key_52 : decode cX1_key 52 = .ok (.aload_n 0, 1) := by decide +kernel
theorem dX1_key_53 : decode cX1_key 53 = .ok (.getfield 16, 3) := by decide +kernel
theorem dX1_key_56 : decode cX1_key 56 = .ok (.aload_n 0, 1) := by decide +kernel
theorem dX1_key_57 : decode cX1_key 57 = .ok (.getfield 10, 3) := by decide +kernel
theorem dX1_key_60 : decode cX1_key 60 = .ok (.invokevirtual 131, 3) := by decide +kernel
theorem dX1_key_63 : decode cX1_key 63 = .ok (.aload_n 0, 1) := by decide +kernel
theorem dX1_key_64 : decode cX1_key 64 = .ok (.getfield 16, 3) := by decide +kernel
theorem dX1_key_67 : decode cX1_key 67 = .ok (.iload 5, 2) := by decide +kernel
theorem dX1_key_69 : decode cX1_key 69 = .ok (.bipush 9, 2) := by decide +kernel
theorem dX1_key_71 : decode cX1_key 71 = .ok (.invokevirtual 90, 3) := by decide +kernel
theorem dX1_key_74 : decode cX1_key 74 = .ok (.pop, 1) := by decide +kernel
theorem dX1_key_75 : decode cX1_key 75 = .ok (.aload_n 0, 1) := by decide +kernel
theorem dX1_key_76 : decode cX1_key 76 = .ok (.getfield 16, 3) := by decide +kernel
theorem dX1_key_79 : decode cX1_key 79 = .ok (.iload_n 1, 1) := by decide +kernel
theorem dX1_key_80 : decode cX1_key 80 = .ok (.invokevirtual 125, 3) := by decide +kernel
theorem dX1_key_83 : decode cX1_key 83 = .ok (.aload_n 0, 1) := by decide +kernel
theorem dX1_key_84 : decode cX1_key 84 = .ok (.getfield 16, 3) := by decide +kernel
theorem dX1_key_87 : decode cX1_key 87 = .ok (.invokevirtual 128, 3) := by decide +kernel
theorem dX1_key_90 : decode cX1_key 90 = .ok (.iload 4, 2) := by decide +kernel
theorem dX1_key_92 : decode cX1_key 92 = .ok (.if_icmp .ge 15, 3) := by decide +kernel
theorem dX1_key_95 : decode cX1_key 95 = .ok (.aload_n 0, 1) := by decide +kernel
theorem dX1_key_96 : decode cX1_key 96 = .ok (.getfield 16, 3) := by decide +kernel
theorem dX1_key_99 : decode cX1_key 99 = .ok (.invokevirtual 128, 3) := by decide +kernel
theorem dX1_key_102 : decode cX1_key 102 = .ok (.istore 4, 2) := by decide +kernel
theorem dX1_key_104 : decode cX1_key 104 = .ok (.iload 5, 2) := by decide +kernel
theorem dX1_key_106 : decode cX1_key 106 = .ok (.istore_n 3, 1) := by decide +kernel
theorem dX1_key_107 : decode cX1_key 107 = .ok (.iinc 5 1, 3) := by decide +kernel
theorem dX1_key_110 : decode cX1_key 110 = .ok (.goto (-82), 3) := by decide +kernel
theorem dX1_key_113 : decode cX1_key 113 = .ok (.iload_n 3, 1) := by decide +kernel
theorem dX1_key_114 : decode cX1_key 114 = .ok (.ireturn, 1) := by decide +kernel
theorem dX1_prop_0 : decode cX1_prop 0 = .ok (.iload_n 1, 1) := by decide +kernel
theorem dX1_prop_1 : decode cX1_prop 1 = .ok (.iconst 0, 1) := by decide +kernel
theorem dX1_prop_2 : decode cX1_prop 2 = .ok (.bipush 99, 2) := by decide +kernel
theorem dX1_prop_4 : decode cX1_prop 4 = .ok (.invokestatic 35, 3) := by decide +kernel
theorem dX1_prop_7 : decode cX1_prop 7 = .ok (.istore_n 2, 1) := by decide +kernel
theorem dX1_prop_8 : decode cX1_prop 8 = .ok (.iload_n 2, 1) := by decide +kernel
theorem dX1_prop_9 : decode cX1_prop 9 = .ok (.ifCond .eq 9, 3) := by decide +kernel
theorem dX1_prop_12 : decode cX1_prop 12 = .ok (.aload_n 0, 1) := by decide +kernel
theorem dX1_prop_13 : decode cX1_prop 13 = .ok (.iload_n 2, 1) := by decide +kernel
theorem dX1_prop_14 : decode cX1_prop 14 = .ok (.invokevirtual 43, 3) := by decide +kernel
theorem dX1_prop_17 : decode cX1_prop 17 = .ok (.ireturn, 1) := by decide +kernel
theorem dX1_prop_18 : decode cX1_prop 18 = .ok (.iconst 0, 1) := by decide +kernel
theorem dX1_prop_19 : decode cX1_prop 19 = .ok (.istore_n 3, 1) := by decide +kernel
theorem dX1_prop_20 : decode cX1_prop 20 = .ok (.iconst 0, 1) := by decide +kernel
theorem dX1_prop_21 : decode cX1_prop 21 = .ok (.istore 4, 2) := by decide +kernel
theorem dX1_prop_23 : decode cX1_prop 23 = .ok (.iload_n 1, 1) := by decide +kernel
theorem dX1_prop_24 : decode cX1_prop 24 = .ok (.ifCond .le 88, 3) := by decide +kernel
theorem dX1_prop_27 : decode cX1_prop 27 = .ok (.iload 4, 2) := by decide +kernel
theorem dX1_prop_29 : decode cX1_prop 29 = .ok (.aload_n 0, 1) := by decide +kernel
theorem dX1_prop_30 : decode cX1_prop 30 = .ok (.getfield 10, 3) := by decide +kernel
theorem dX1_prop_33 : decode cX1_prop 33 = .ok (.getfield 163, 3) := by decide +kernel
theorem dX1_prop_36 : decode cX1_prop 36 = .ok (.if_icmp .ge 76, 3) := by decide +kernel
theorem dX1_prop_39 : decode cX1_prop 39 = .ok (.aload_n 0, 1) := by decide +kernel
theorem dX1_prop_40 : decode cX1_prop 40 = .ok (.getfield 10, 3) := by decide +kernel
theorem dX1_prop_43 : decode cX1_prop 43 = .ok (.iload 4, 2) := by decide +kernel
theorem dX1_prop_45 : decode cX1_prop 45 = .ok (.invokevirtual 166, 3) := by decide +kernel
theorem dX1_prop_48 : decode cX1_prop 48 = .ok (.ifCond .eq 19, 3) := by decide +kernel
theorem dX1_prop_51 : decode cX1_prop 51 = .ok (.aload_n 0, 1) := by decide +kernel
theorem dX1_prop_52 : decode cX1_prop 52 = .ok (.getfield 10, 3) := by decide +kernel
theorem dX1_prop_55 : decode cX1_prop 55 = .ok (.iload 4, 2) := by decide +kernel
theorem dX1_prop_57 : decode cX1_prop 57 = .ok (.invokevirtual 79, 3) := by decide +kernel
theorem dX1_prop_60 : decode cX1_prop 60 = .ok (.ifCond .ne 7, 3) := by decide +kernel
theorem dX1_prop_63 : decode cX1_prop 63 = .ok (.iconst 1, 1) := by decide +kernel
theorem dX1_prop_64 : decode cX1_prop 64 = .ok (.goto 4, 3) := by decide +kernel
theorem dX1_prop_67 : decode cX1_prop 67 = .ok (.iconst 0, 1) := by decide +kernel
theorem dX1_prop_68 : decode cX1_prop 68 = .ok (.istore 5, 2) := by decide +kernel
theorem dX1_prop_70 : decode cX1_prop 70 = .ok (.iload 5, 2) := by decide +kernel
theorem dX1_prop_72 : decode cX1_prop 72 = .ok (.ifCond .eq 34, 3) := by decide +kernel
theorem dX1_prop_75 : decode cX1_prop 75 = .ok (.aload_n 0, 1) := by decide +kernel
theorem dX1_prop_76 : decode cX1_prop 76 = .ok (.getfield 10, 3) := by decide +kernel
theorem dX1_prop_79 : decode cX1_prop 79 = .ok (.getfield 70, 3) := by decide +kernel
theorem dX1_prop_82 : decode cX1_prop 82 = .ok (.iload 4, 2) := by decide +kernel
theorem dX1_prop_84 : decode cX1_prop 84 = .ok (.iaload, 1) := by decide +kernel
theorem dX1_prop_85 : decode cX1_prop 85 = .ok (.iload_n 1, 1) := by decide +kernel
theorem dX1_prop_86 : decode cX1_prop 86 = .ok (.iadd, 1) := by decide +kernel
theorem dX1_prop_87 : decode cX1_prop 87 = .ok (.aload_n 0, 1) := by decide +kernel
theorem dX1_prop_88 : decode cX1_prop 88 = .ok (.getfield 10, 3) := by decide +kernel
theorem dX1_prop_91 : decode cX1_prop 91 = .ok (.iload 4, 2) := by decide +kernel
theorem dX1_prop_93 : decode cX1_prop 93 = .ok (.invokevirtual 73, 3) := by decide +kernel
theorem dX1_prop_96 : decode cX1_prop 96 = .ok (.if_icmp .le 10, 3) := by decide +kernel
theorem dX1_prop_99 : decode cX1_prop 99 = .ok (.iload_n 3, 1) := by decide +kernel
theorem dX1_prop_100 : decode cX1_prop 100 = .ok (.iconst 1, 1) := by decide +kernel
theorem dX1_prop_101 : decode cX1_prop 101 = .ok (.iload 4, 2) := by decide +kernel
theorem dX1_prop_103 : decode cX1_prop 103 = .ok (.ishl, 1) := by decide +kernel
theorem dX1_prop_104 : decode cX1_prop 104 = .ok (.ior, 1) := by decide +kernel
theorem dX1_prop_105 : decode cX1_prop 105 = .ok (.istore_n 3, 1) := by decide +kernel
theorem dX1_prop_106 : decode cX1_prop 106 = .ok (.iinc 4 1, 3) := by decide +kernel
theorem dX1_prop_109 : decode cX1_prop 109 = .ok (.goto (-86), 3) := by decide +kernel
theorem dX1_prop_112 : decode cX1_prop 112 = .ok (.iload_n 3, 1) := by decide +kernel
theorem dX1_prop_113 : decode cX1_prop 113 = .ok (.ireturn, 1) := by decide +kernel
theorem dX1_order_0 : decode cX1_order 0 = .ok (.aload_n 0, 1) := by decide +kernel
theorem dX1_order_1 : decode cX1_order 1 = .ok (.getfield 10, 3) := by decide +kernel
theorem dX1_order_4 : decode cX1_order 4 = .ok (.iload_n 1, 1) := by decide +kernel
theorem dX1_order_5 : decode cX1_order 5 = .ok (.invokevirtual 169, 3) := by decide +kernel
theorem dX1_order_8 : decode cX1_order 8 = .ok (.ifCond .eq 44, 3) := by decide +kernel
theorem dX1_order_11 : decode cX1_order 11 = .ok (.aload_n 0, 1) := by decide +kernel
theorem dX1_order_12 : decode cX1_order 12 = .ok (.getfield 10, 3) := by decide +kernel
theorem dX1_order_15 : decode cX1_order 15 = .ok (.iload_n 2, 1) := by decide +kernel
theorem dX1_order_16 : decode cX1_order 16 = .ok (.invokevirtual 169, 3) := by decide +kernel
theorem dX1_order_19 : decode cX1_order 19 = .ok (.ifCond .eq 33, 3) := by decide +kernel
theorem dX1_order_22 : decode cX1_order 22 = .ok (.aload_n 0, 1) := by decide +kernel
theorem dX1_order_23 : decode cX1_order 23 = .ok (.getfield 10, 3) := by decide +kernel
theorem dX1_order_26 : decode cX1_order 26 = .ok (.iload_n 3, 1) := by decide +kernel
theorem dX1_order_27 : decode cX1_order 27 = .ok (.invokevirtual 169, 3) := by decide +kernel
theorem dX1_order_30 : decode cX1_order 30 = .ok (.ifCond .eq 22, 3) := by decide +kernel
theorem dX1_order_33 : decode cX1_order 33 = .ok (.iload_n 1, 1) := by decide +kernel
theorem dX1_order_34 : decode cX1_order 34 = .ok (.iload_n 2, 1) := by decide +kernel
theorem dX1_order_35 : decode cX1_order 35 = .ok (.if_icmp .eq 17, 3) := by decide +kernel
theorem dX1_order_38 : decode cX1_order 38 = .ok (.iload_n 2, 1) := by decide +kernel
theorem dX1_order_39 : decode cX1_order 39 = .ok (.iload_n 3, 1) := by decide +kernel
theorem dX1_order_40 : decode cX1_order 40 = .ok (.if_icmp .eq 12, 3) := by decide +kernel
theorem dX1_order_43 : decode cX1_order 43 = .ok (.iload_n 1, 1) := by decide +kernel
theorem dX1_order_44 : decode cX1_order 44 = .ok (.iload_n 3, 1) := by decide +kernel
theorem dX1_order_45 : decode cX1_order 45 = .ok (.if_icmp .eq 7, 3) := by decide +kernel
theorem dX1_order_48 : decode cX1_order 48 = .ok (.iconst 1, 1) := by decide +kernel
theorem dX1_order_49 : decode cX1_order 49 = .ok (.goto 4, 3) := by decide +kernel
theorem dX1_order_52 : decode cX1_order 52 = .ok (.iconst 0, 1) := by decide +kernel
theorem dX1_order_53 : decode cX1_order 53 = .ok (.istore 6, 2) := by decide +kernel
theorem dX1_order_55 : decode cX1_order 55 = .ok (.iload 6, 2) := by decide +kernel
theorem dX1_order_57 : decode cX1_order 57 = .ok (.ifCond .eq 7, 3) := by decide +kernel
theorem dX1_order_60 : decode cX1_order 60 = .ok (.iconst 0, 1) := by decide +kernel
theorem dX1_order_61 : decode cX1_order 61 = .ok (.goto 4, 3) := by decide +kernel
theorem dX1_order_64 : decode cX1_order 64 = .ok (.iconst (-1), 1) := by decide +kernel
theorem dX1_order_65 : decode cX1_order 65 = .ok (.iload 4, 2) := by decide +kernel
theorem dX1_order_67 : decode cX1_order 67 = .ok (.iconst 0, 1) := by decide +kernel
theorem dX1_order_68 : decode cX1_order 68 = .ok (.bipush 9, 2) := by decide +kernel
theorem dX1_order_70 : decode cX1_order 70 = .ok (.invokestatic 35, 3) := by decide +kernel
theorem dX1_order_73 : decode cX1_order 73 = .ok (.invokestatic 115, 3) := by decide +kernel
theorem dX1_order_76 : decode cX1_order 76 = .ok (.istore 7, 2) := by decide +kernel
theorem dX1_order_78 : decode cX1_order 78 = .ok (.iload 7, 2) := by decide +kernel
theorem dX1_order_80 : decode cX1_order 80 = .ok (.iload 5, 2) := by decide +kernel
theorem dX1_order_82 : decode cX1_order 82 = .ok (.iconst 1, 1) := by decide +kernel
theorem dX1_order_83 : decode cX1_order 83 = .ok (.invokestatic 51, 3) := by decide +kernel
theorem dX1_order_86 : decode cX1_order 86 = .ok (.invokestatic 115, 3) := by decide +kernel
theorem dX1_order_89 : decode cX1_order 89 = .ok (.istore 7, 2) := by decide +kernel
theorem dX1_order_91 : decode cX1_order 91 = .ok (.iload 7, 2) := by decide +kernel
theorem dX1_order_93 : decode cX1_order 93 = .ok (.ifCond .eq 10, 3) := by decide +kernel
theorem dX1_order_96 : decode cX1_order 96 = .ok (.aload_n 0, 1) := by decide +kernel
theorem dX1_order_97 : decode cX1_order 97 = .ok (.iload 7, 2) := by decide +kernel
theorem dX1_order_99 : decode cX1_order 99 = .ok (.invokevirtual 43, 3) := by decide +kernel
theorem dX1_order_102 : decode cX1_order 102 = .ok (.ireturn, 1) := by decide +kernel
theorem dX1_order_103 : decode cX1_order 103 = .ok (.getstatic 172, 3) := by decide +kernel
theorem dX1_order_106 : decode cX1_order 106 = .ok (.iconst 0, 1) := by decide +kernel
theorem dX1_order_107 : decode cX1_order 107 = .ok (.iaload, 1) := by decide +kernel
theorem dX1_order_108 : decode cX1_order 108 = .ok (.istore 8, 2) := by decide +kernel
theorem dX1_order_110 : decode cX1_order 110 = .ok (.bipush (-9), 2) := by decide +kernel
theorem dX1_order_112 : decode cX1_order 112 = .ok (.istore 9, 2) := by decide +kernel
theorem dX1_order_114 : decode cX1_order 114 = .ok (.getstatic 172, 3) := by decide +kernel
theorem dX1_order_117 : decode cX1_order 117 = .ok (.astore 10, 2) := by decide +kernel
theorem dX1_order_119 : decode cX1_order 119 = .ok (.aload 10, 2) := by decide +kernel
theorem dX1_order_121 : decode cX1_order 121 = .ok (.arraylength, 1) := by decide +kernel
theorem dX1_order_122 : decode cX1_order 122 = .ok (.istore 11, 2) := by decide +kernel
theorem dX1_order_124 : decode cX1_order 124 = .ok (.iconst 0, 1) := by decide +kernel
theorem dX1_order_125 : decode cX1_order 125 = .ok (.istore 12, 2) := by decide +kernel
theorem dX1_order_127 : decode cX1_order 127 = .ok (.iload 12, 2) := by decide +kernel
theorem dX1_order_129 : decode cX1_order 129 = .ok (.iload 11, 2) := by decide +kernel
theorem dX1_order_131 : decode cX1_order 131 = .ok (.if_icmp .ge 44, 3) := by decide +kernel
theorem dX1_order_134 : decode cX1_order 134 = .ok (.aload 10, 2) := by decide +kernel
theorem dX1_order_136 : decode cX1_order 136 = .ok (.iload 12, 2) := by decide +kernel
theorem dX1_order_138 : decode cX1_order 138 = .ok (.iaload, 1) := by decide +kernel
theorem dX1_order_139 : decode cX1_order 139 = .ok (.istore 13, 2) := by decide +kernel
theorem dX1_order_141 : decode cX1_order 141 = .ok (.aload_n 0, 1) := by decide +kernel
theorem dX1_order_142 : decode cX1_order 142 = .ok (.iload 13, 2) := by decide +kernel
theorem dX1_order_144 : decode cX1_order 144 = .ok (.iload_n 1, 1) := by decide +kernel
theorem dX1_order_145 : decode cX1_order 145 = .ok (.iload_n 2, 1) := by decide +kernel
theorem dX1_order_146 : decode cX1_order 146 = .ok (.iload_n 3, 1) := by decide +kernel
theorem dX1_order_147 : decode cX1_order 147 = .ok (.iload 4, 2) := by decide +kernel
theorem dX1_order_149 : decode cX1_order 149 = .ok (.invokevirtual 175, 3) := by decide +kernel
theorem dX1_order_152 : decode cX1_order 152 = .ok (.istore 14, 2) := by decide +kernel
theorem dX1_order_154 : decode cX1_order 154 = .ok (.iload 14, 2) := by decide +kernel
theorem dX1_order_156 : decode cX1_order 156 = .ok (.iload 9, 2) := by decide +kernel
theorem dX1_order_158 : decode cX1_order 158 = .ok (.if_icmp .le 11, 3) := by decide +kernel
theorem dX1_order_161 : decode cX1_order 161 = .ok (.iload 14, 2) := by decide +kernel
theorem dX1_order_163 : decode cX1_order 163 = .ok (.istore 9, 2) := by decide +kernel
theorem dX1_order_165 : decode cX1_order 165 = .ok (.iload 13, 2) := by decide +kernel
theorem dX1_order_167 : decode cX1_order 167 = .ok (.istore 8, 2) := by decide +kernel
theorem dX1_order_169 : decode cX1_order 169 = .ok (.iinc 12 1, 3) := by decide +kernel
theorem dX1_order_172 : decode cX1_order 172 = .ok (.goto (-45), 3) := by decide +kernel
theorem dX1_order_175 : decode cX1_order 175 = .ok (.iload 5, 2) := by decide +kernel
theorem dX1_order_177 : decode cX1_order 177 = .ok (.ifCond .ne 8, 3) := by decide +kernel
theorem dX1_order_180 : decode cX1_order 180 = .ok (.iload 8, 2) := by decide +kernel
theorem dX1_order_182 : decode cX1_order 182 = .ok (.goto 5, 3) := by decide +kernel
theorem dX1_order_185 : decode cX1_order 185 = .ok (.iload 9, 2) := by decide +kernel
theorem dX1_order_187 : decode cX1_order 187 = .ok (.ireturn, 1) := by decide +kernel
theorem dX1_floorFalls_0 : decode cX1_floorFalls 0 = .ok (.iload_n 1, 1) := by decide +kernel
theorem dX1_floorFalls_1 : decode cX1_floorFalls 1 = .ok (.iconst 0, 1) := by decide +kernel
theorem dX1_floorFalls_2 : decode cX1_floorFalls 2 = .ok (.bipush 9, 2) := by decide +kernel
theorem dX1_floorFalls_4 : decode cX1_floorFalls 4 = .ok (.invokestatic 35, 3) := by decide +kernel
theorem dX1_floorFalls_7 : decode cX1_floorFalls 7 = .ok (.istore_n 2, 1) := by decide +kernel
theorem dX1_floorFalls_8 : decode cX1_floorFalls 8 = .ok (.iload_n 2, 1) := by decide +kernel
theorem dX1_floorFalls_9 : decode cX1_floorFalls 9 = .ok (.ifCond .eq 9, 3) := by decide +kernel
theorem dX1_floorFalls_12 : decode cX1_floorFalls 12 = .ok (.aload_n 0, 1) := by decide +kernel
theorem dX1_floorFalls_13 : decode cX1_floorFalls 13 = .ok (.iload_n 2, 1) := by decide +kernel
theorem dX1_floorFalls_14 : decode cX1_floorFalls 14 = .ok (.invokevirtual 43, 3) := by decide +kernel
theorem dX1_floorFalls_17 : decode cX1_floorFalls 17 = .ok (.ireturn, 1) := by decide +kernel
theorem dX1_floorFalls_18 : decode cX1_floorFalls 18 = .ok (.aload_n 0, 1) := by decide +kernel
theorem dX1_floorFalls_19 : decode cX1_floorFalls 19 = .ok (.getfield 10, 3) := by decide +kernel
theorem dX1_floorFalls_22 : decode cX1_floorFalls 22 = .ok (.getfield 98, 3) := by decide +kernel
theorem dX1_floorFalls_25 : decode cX1_floorFalls 25 = .ok (.ifCond .eq 19, 3) := by decide +kernel
theorem dX1_floorFalls_28 : decode cX1_floorFalls 28 = .ok (.aload_n 0, 1) := by decide +kernel
theorem dX1_floorFalls_29 : decode cX1_floorFalls 29 = .ok (.getfield 10, 3) := by decide +kernel
theorem dX1_floorFalls_32 : decode cX1_floorFalls 32 = .ok (.bipush (-9), 2) := by decide +kernel
theorem dX1_floorFalls_34 : decode cX1_floorFalls 34 = .ok (.iload_n 1, 1) := by decide +kernel
theorem dX1_floorFalls_35 : decode cX1_floorFalls 35 = .ok (.invokevirtual 150, 3) := by decide +kernel
theorem dX1_floorFalls_38 : decode cX1_floorFalls 38 = .ok (.invokestatic 93, 3) := by decide +kernel
theorem dX1_floorFalls_41 : decode cX1_floorFalls 41 = .ok (.goto 5, 3) := by decide +kernel
theorem dX1_floorFalls_44 : decode cX1_floorFalls 44 = .ok (.bipush (-9), 2) := by decide +kernel
theorem dX1_floorFalls_46 : decode cX1_floorFalls 46 = .ok (.ireturn, 1) := by decide +kernel
theorem dX1_watched_0 : decode cX1_watched 0 = .ok (.iload_n 1, 1) := by decide +kernel
theorem dX1_watched_1 : decode cX1_watched 1 = .ok (.iconst 1, 1) := by decide +kernel
theorem dX1_watched_2 : decode cX1_watched 2 = .ok (.invokestatic 51, 3) := by decide +kernel
theorem dX1_watched_5 : decode cX1_watched 5 = .ok (.istore_n 2, 1) := by decide +kernel
theorem dX1_watched_6 : decode cX1_watched 6 = .ok (.iload_n 2, 1) := by decide +kernel
theorem dX1_watched_7 : decode cX1_watched 7 = .ok (.ifCond .eq 9, 3) := by decide +kernel
theorem dX1_watched_10 : decode cX1_watched 10 = .ok (.aload_n 0, 1) := by decide +kernel
theorem dX1_watched_11 : decode cX1_watched 11 = .ok (.iload_n 2, 1) := by decide +kernel
theorem dX1_watched_12 : decode cX1_watched 12 = .ok (.invokevirtual 43, 3) := by decide +kernel
theorem dX1_watched_15 : decode cX1_watched 15 = .ok (.ireturn, 1) := by decide +kernel
theorem dX1_watched_16 : decode cX1_watched 16 = .ok (.iload_n 1, 1) := by decide +kernel
theorem dX1_watched_17 : decode cX1_watched 17 = .ok (.ifCond .ne 13, 3) := by decide +kernel
theorem dX1_watched_20 : decode cX1_watched 20 = .ok (.aload_n 0, 1) := by decide +kernel
theorem dX1_watched_21 : decode cX1_watched 21 = .ok (.getfield 10, 3) := by decide +kernel
theorem dX1_watched_24 : decode cX1_watched 24 = .ok (.invokevirtual 179, 3) := by decide +kernel
theorem dX1_watched_27 : decode cX1_watched 27 = .ok (.goto 13, 3) := by decide +kernel
theorem dX1_watched_30 : decode cX1_watched 30 = .ok (.aload_n 0, 1) := by decide +kernel
theorem dX1_watched_31 : decode cX1_watched 31 = .ok (.getfield 10, 3) := by decide +kernel
theorem dX1_watched_34 : decode cX1_watched 34 = .ok (.invokevirtual 182, 3) := by decide +kernel
theorem dX1_watched_37 : decode cX1_watched 37 = .ok (.invokestatic 83, 3) := by decide +kernel
theorem dX1_watched_40 : decode cX1_watched 40 = .ok (.ireturn, 1) := by decide +kernel
theorem dX1_rebuild_0 : decode cX1_rebuild 0 = .ok (.iload_n 1, 1) := by decide +kernel
theorem dX1_rebuild_1 : decode cX1_rebuild 1 = .ok (.iconst 1, 1) := by decide +kernel
theorem dX1_rebuild_2 : decode cX1_rebuild 2 = .ok (.invokestatic 51, 3) := by decide +kernel
theorem dX1_rebuild_5 : decode cX1_rebuild 5 = .ok (.istore_n 2, 1) := by decide +kernel
theorem dX1_rebuild_6 : decode cX1_rebuild 6 = .ok (.iload_n 2, 1) := by decide +kernel
theorem dX1_rebuild_7 : decode cX1_rebuild 7 = .ok (.ifCond .eq 9, 3) := by decide +kernel
theorem dX1_rebuild_10 : decode cX1_rebuild 10 = .ok (.aload_n 0, 1) := by decide +kernel
theorem dX1_rebuild_11 : decode cX1_rebuild 11 = .ok (.iload_n 2, 1) := by decide +kernel
theorem dX1_rebuild_12 : decode cX1_rebuild 12 = .ok (.invokevirtual 43, 3) := by decide +kernel
theorem dX1_rebuild_15 : decode cX1_rebuild 15 = .ok (.ireturn, 1) := by decide +kernel
theorem dX1_rebuild_16 : decode cX1_rebuild 16 = .ok (.iload_n 1, 1) := by decide +kernel
theorem dX1_rebuild_17 : decode cX1_rebuild 17 = .ok (.ifCond .ne 11, 3) := by decide +kernel
theorem dX1_rebuild_20 : decode cX1_rebuild 20 = .ok (.aload_n 0, 1) := by decide +kernel
theorem dX1_rebuild_21 : decode cX1_rebuild 21 = .ok (.getfield 10, 3) := by decide +kernel
theorem dX1_rebuild_24 : decode cX1_rebuild 24 = .ok (.invokevirtual 186, 3) := by decide +kernel
theorem dX1_rebuild_27 : decode cX1_rebuild 27 = .ok (.ireturn, 1) := by decide +kernel
theorem dX1_rebuild_28 : decode cX1_rebuild 28 = .ok (.aload_n 0, 1) := by decide +kernel
theorem dX1_rebuild_29 : decode cX1_rebuild 29 = .ok (.getfield 16, 3) := by decide +kernel
theorem dX1_rebuild_32 : decode cX1_rebuild 32 = .ok (.aload_n 0, 1) := by decide +kernel
theorem dX1_rebuild_33 : decode cX1_rebuild 33 = .ok (.getfield 10, 3) := by decide +kernel
theorem dX1_rebuild_36 : decode cX1_rebuild 36 = .ok (.invokevirtual 131, 3) := by decide +kernel
theorem dX1_rebuild_39 : decode cX1_rebuild 39 = .ok (.iconst 0, 1) := by decide +kernel
theorem dX1_rebuild_40 : decode cX1_rebuild 40 = .ok (.istore_n 3, 1) := by decide +kernel
theorem dX1_rebuild_41 : decode cX1_rebuild 41 = .ok (.iconst 0, 1) := by decide +kernel
theorem dX1_rebuild_42 : decode cX1_rebuild 42 = .ok (.istore 4, 2) := by decide +kernel
theorem dX1_rebuild_44 : decode cX1_rebuild 44 = .ok (.iload 4, 2) := by decide +kernel
theorem dX1_rebuild_46 : decode cX1_rebuild 46 = .ok (.bipush 10, 2) := by decide +kernel
theorem dX1_rebuild_48 : decode cX1_rebuild 48 = .ok (.if_icmp .ge 39, 3) := by decide +kernel
theorem dX1_rebuild_51 : decode cX1_rebuild 51 = .ok (.aload_n 0, 1) := by decide +kernel
theorem dX1_rebuild_52 : decode cX1_rebuild 52 = .ok (.getfield 16, 3) := by decide +kernel
theorem dX1_rebuild_55 : decode cX1_rebuild 55 = .ok (.invokevirtual 186, 3) := by decide +kernel
theorem dX1_rebuild_58 : decode cX1_rebuild 58 = .ok (.istore 5, 2) := by decide +kernel
theorem dX1_rebuild_60 : decode cX1_rebuild 60 = .ok (.iload 5, 2) := by decide +kernel
theorem dX1_rebuild_62 : decode cX1_rebuild 62 = .ok (.bipush (-9), 2) := by decide +kernel
theorem dX1_rebuild_64 : decode cX1_rebuild 64 = .ok (.if_icmp .ne 5, 3) := by decide +kernel
theorem dX1_rebuild_67 : decode cX1_rebuild 67 = .ok (.iload_n 3, 1) := by decide +kernel
theorem dX1_rebuild_68 : decode cX1_rebuild 68 = .ok (.ireturn, 1) := by decide +kernel
theorem dX1_rebuild_69 : decode cX1_rebuild 69 = .ok (.aload_n 0, 1) := by decide +kernel
theorem dX1_rebuild_70 : decode cX1_rebuild 70 = .ok (.getfield 16, 3) := by decide +kernel
theorem dX1_rebuild_73 : decode cX1_rebuild 73 = .ok (.iload 5, 2) := by decide +kernel
theorem dX1_rebuild_75 : decode cX1_rebuild 75 = .ok (.invokevirtual 111, 3) := by decide +kernel
theorem dX1_rebuild_78 : decode cX1_rebuild 78 = .ok (.iinc 3 1, 3) := by decide +kernel
theorem dX1_rebuild_81 : decode cX1_rebuild 81 = .ok (.iinc 4 1, 3) := by decide +kernel
theorem dX1_rebuild_84 : decode cX1_rebuild 84 = .ok (.goto (-40), 3) := by decide +kernel
theorem dX1_rebuild_87 : decode cX1_rebuild 87 = .ok (.iload_n 3, 1) := by decide +kernel
theorem dX1_rebuild_88 : decode cX1_rebuild 88 = .ok (.ireturn, 1) := by decide +kernel
theorem dX1_draught_0 : decode cX1_draught 0 = .ok (.iload_n 2, 1) := by decide +kernel
theorem dX1_draught_1 : decode cX1_draught 1 = .ok (.ifCond .lt 8, 3) := by decide +kernel
theorem dX1_draught_4 : decode cX1_draught 4 = .ok (.iload_n 3, 1) := by decide +kernel
theorem dX1_draught_5 : decode cX1_draught 5 = .ok (.iconst 2, 1) := by decide +kernel
theorem dX1_draught_6 : decode cX1_draught 6 = .ok (.if_icmp .ge 8, 3) := by decide +kernel
theorem dX1_draught_9 : decode cX1_draught 9 = .ok (.bipush (-4), 2) := by decide +kernel
theorem dX1_draught_11 : decode cX1_draught 11 = .ok (.goto 4, 3) := by decide +kernel
theorem dX1_draught_14 : decode cX1_draught 14 = .ok (.iconst 0, 1) := by decide +kernel
theorem dX1_draught_15 : decode cX1_draught 15 = .ok (.istore 5, 2) := by decide +kernel
theorem dX1_draught_17 : decode cX1_draught 17 = .ok (.iload_n 2, 1) := by decide +kernel
theorem dX1_draught_18 : decode cX1_draught 18 = .ok (.bipush 7, 2) := by decide +kernel
theorem dX1_draught_20 : decode cX1_draught 20 = .ok (.if_icmp .gt 9, 3) := by decide +kernel
theorem dX1_draught_23 : decode cX1_draught 23 = .ok (.iload_n 3, 1) := by decide +kernel
theorem dX1_draught_24 : decode cX1_draught 24 = .ok (.bipush 20, 2) := by decide +kernel
theorem dX1_draught_26 : decode cX1_draught 26 = .ok (.if_icmp .le 8, 3) := by decide +kernel
theorem dX1_draught_29 : decode cX1_draught 29 = .ok (.bipush (-6), 2) := by decide +kernel
theorem dX1_draught_31 : decode cX1_draught 31 = .ok (.goto 4, 3) := by decide +kernel
theorem dX1_draught_34 : decode cX1_draught 34 = .ok (.iconst 0, 1) := by decide +kernel
theorem dX1_draught_35 : decode cX1_draught 35 = .ok (.istore 6, 2) := by decide +kernel
theorem dX1_draught_37 : decode cX1_draught 37 = .ok (.iload 5, 2) := by decide +kernel
theorem dX1_draught_39 : decode cX1_draught 39 = .ok (.iload 6, 2) := by decide +kernel
theorem dX1_draught_41 : decode cX1_draught 41 = .ok (.invokestatic 115, 3) := by decide +kernel
theorem dX1_draught_44 : decode cX1_draught 44 = .ok (.iload 4, 2) := by decide +kernel
theorem dX1_draught_46 : decode cX1_draught 46 = .ok (.iconst 1, 1) := by decide +kernel
theorem dX1_draught_47 : decode cX1_draught 47 = .ok (.invokestatic 51, 3) := by decide +kernel
theorem dX1_draught_50 : decode cX1_draught 50 = .ok (.invokestatic 115, 3) := by decide +kernel
theorem dX1_draught_53 : decode cX1_draught 53 = .ok (.istore 7, 2) := by decide +kernel
theorem dX1_draught_55 : decode cX1_draught 55 = .ok (.aload_n 0, 1) := by decide +kernel
theorem dX1_draught_56 : decode cX1_draught 56 = .ok (.iload_n 1, 1) := by decide +kernel
theorem dX1_draught_57 : decode cX1_draught 57 = .ok (.iload 7, 2) := by decide +kernel
theorem dX1_draught_59 : decode cX1_draught 59 = .ok (.invokevirtual 55, 3) := by decide +kernel
theorem dX1_draught_62 : decode cX1_draught 62 = .ok (.istore 8, 2) := by decide +kernel
theorem dX1_draught_64 : decode cX1_draught 64 = .ok (.iload 8, 2) := by decide +kernel
theorem dX1_draught_66 : decode cX1_draught 66 = .ok (.ifCond .eq 18, 3) := by decide +kernel
theorem dX1_draught_69 : decode cX1_draught 69 = .ok (.aload_n 0, 1) := by decide +kernel
theorem dX1_draught_70 : decode cX1_draught 70 = .ok (.iload 8, 2) := by decide +kernel
theorem dX1_draught_72 : decode cX1_draught 72 = .ok (.invokevirtual 43, 3) := by decide +kernel
theorem dX1_draught_75 : decode cX1_draught 75 = .ok (.pop, 1) := by decide +kernel
theorem dX1_draught_76 : decode cX1_draught 76 = .ok (.ldc2_w 189, 3) := by decide +kernel
theorem dX1_draught_79 : decode cX1_draught 79 = .ok (.iload 8, 2) := by decide +kernel
theorem dX1_draught_81 : decode cX1_draught 81 = .ok (.i2l, 1) := by decide +kernel
theorem dX1_draught_82 : decode cX1_draught 82 = .ok (.lsub, 1) := by decide +kernel
theorem dX1_draught_83 : decode cX1_draught 83 = .ok (.lreturn, 1) := by decide +kernel
theorem dX1_draught_84 : decode cX1_draught 84 = .ok (.iload_n 3, 1) := by decide +kernel
theorem dX1_draught_85 : decode cX1_draught 85 = .ok (.iload_n 2, 1) := by decide +kernel
theorem dX1_draught_86 : decode cX1_draught 86 = .ok (.invokestatic 191, 3) := by decide +kernel
theorem dX1_draught_89 : decode cX1_draught 89 = .ok (.lstore 9, 2) := by decide +kernel
theorem dX1_draught_91 : decode cX1_draught 91 = .ok (.lconst 0, 1) := by decide +kernel
theorem dX1_draught_92 : decode cX1_draught 92 = .ok (.lstore 11, 2) := by decide +kernel
theorem dX1_draught_94 : decode cX1_draught 94 = .ok (.iconst 0, 1) := by decide +kernel
theorem dX1_draught_95 : decode cX1_draught 95 = .ok (.istore 13, 2) := by decide +kernel
theorem dX1_draught_97 : decode cX1_draught 97 = .ok (.iload 13, 2) := by decide +kernel
theorem dX1_draught_99 : decode cX1_draught 99 = .ok (.iconst 1, 1) := by decide +kernel
theorem dX1_draught_100 : decode cX1_draught 100 = .ok (.iload_n 2, 1) := by decide +kernel
theorem dX1_draught_101 : decode cX1_draught 101 = .ok (.ishl, 1) := by decide +kernel
theorem dX1_draught_102 : decode cX1_draught 102 = .ok (.if_icmp .ge 38, 3) := by decide +kernel
theorem dX1_draught_105 : decode cX1_draught 105 = .ok (.aload_n 0, 1) := by decide +kernel
theorem dX1_draught_106 : decode cX1_draught 106 = .ok (.iload_n 1, 1) := by decide +kernel
theorem dX1_draught_107 : decode cX1_draught 107 = .ok (.iload_n 2, 1) := by decide +kernel
theorem dX1_draught_108 : decode cX1_draught 108 = .ok (.iload 13, 2) := by decide +kernel
theorem dX1_draught_110 : decode cX1_draught 110 = .ok (.invokevirtual 195, 3) := by decide +kernel
theorem dX1_draught_113 : decode cX1_draught 113 = .ok (.ifCond .eq 21, 3) := by decide +kernel
theorem dX1_draught_116 : decode cX1_draught 116 = .ok (.lload 11, 2) := by decide +kernel
theorem dX1_draught_118 : decode cX1_draught 118 = .ok (.iload_n 3, 1) := by decide +kernel
theorem dX1_draught_119 : decode cX1_draught 119 = .ok (.iconst 1, 1) := by decide +kernel
theorem dX1_draught_120 : decode cX1_draught 120 = .ok (.isub, 1) := by decide +kernel
theorem dX1_draught_121 : decode cX1_draught 121 = .ok (.iload_n 2, 1) := by decide +kernel
theorem dX1_draught_122 : decode cX1_draught 122 = .ok (.iload 13, 2) := by decide +kernel
theorem dX1_draught_124 : decode cX1_draught 124 = .ok (.invokestatic 93, 3) := by decide +kernel
theorem dX1_draught_127 : decode cX1_draught 127 = .ok (.isub, 1) := by decide +kernel
theorem dX1_draught_128 : decode cX1_draught 128 = .ok (.invokestatic 191, 3) := by decide +kernel
theorem dX1_draught_131 : decode cX1_draught 131 = .ok (.ladd, 1) := by decide +kernel
theorem dX1_draught_132 : decode cX1_draught 132 = .ok (.lstore 11, 2) := by decide +kernel
theorem dX1_draught_134 : decode cX1_draught 134 = .ok (.iinc 13 1, 3) := by decide +kernel
theorem dX1_draught_137 : decode cX1_draught 137 = .ok (.goto (-40), 3) := by decide +kernel
theorem dX1_draught_140 : decode cX1_draught 140 = .ok (.lload 11, 2) := by decide +kernel
theorem dX1_draught_142 : decode cX1_draught 142 = .ok (.lload 9, 2) := by decide +kernel
theorem dX1_draught_144 : decode cX1_draught 144 = .ok (.invokestatic 198, 3) := by decide +kernel
theorem dX1_draught_147 : decode cX1_draught 147 = .ok (.lstore 13, 2) := by decide +kernel
theorem dX1_draught_149 : decode cX1_draught 149 = .ok (.lload 13, 2) := by decide +kernel
theorem dX1_draught_151 : decode cX1_draught 151 = .ok (.lconst 0, 1) := by decide +kernel
theorem dX1_draught_152 : decode cX1_draught 152 = .ok (.lcmp, 1) := by decide +kernel
theorem dX1_draught_153 : decode cX1_draught 153 = .ok (.ifCond .ne 5, 3) := by decide +kernel
theorem dX1_draught_156 : decode cX1_draught 156 = .ok (.lconst 0, 1) := by decide +kernel
theorem dX1_draught_157 : decode cX1_draught 157 = .ok (.lreturn, 1) := by decide +kernel
theorem dX1_draught_158 : decode cX1_draught 158 = .ok (.iload 4, 2) := by decide +kernel
theorem dX1_draught_160 : decode cX1_draught 160 = .ok (.ifCond .ne 11, 3) := by decide +kernel
theorem dX1_draught_163 : decode cX1_draught 163 = .ok (.lload 11, 2) := by decide +kernel
theorem dX1_draught_165 : decode cX1_draught 165 = .ok (.lload 13, 2) := by decide +kernel
theorem dX1_draught_167 : decode cX1_draught 167 = .ok (.ldiv, 1) := by decide +kernel
theorem dX1_draught_168 : decode cX1_draught 168 = .ok (.goto 8, 3) := by decide +kernel
theorem dX1_draught_171 : decode cX1_draught 171 = .ok (.lload 9, 2) := by decide +kernel
theorem dX1_draught_173 : decode cX1_draught 173 = .ok (.lload 13, 2) := by decide +kernel
theorem dX1_draught_175 : decode cX1_draught 175 = .ok (.ldiv, 1) := by decide +kernel
theorem dX1_draught_176 : decode cX1_draught 176 = .ok (.lreturn, 1) := by decide +kernel
theorem dX1_two_0 : decode cX1_two 0 = .ok (.aload_n 0, 1) := by decide +kernel
theorem dX1_two_1 : decode cX1_two 1 = .ok (.getfield 10, 3) := by decide +kernel
theorem dX1_two_4 : decode cX1_two 4 = .ok (.iload_n 1, 1) := by decide +kernel
theorem dX1_two_5 : decode cX1_two 5 = .ok (.invokevirtual 169, 3) := by decide +kernel
theorem dX1_two_8 : decode cX1_two 8 = .ok (.ifCond .eq 23, 3) := by decide +kernel
theorem dX1_two_11 : decode cX1_two 11 = .ok (.aload_n 0, 1) := by decide +kernel
theorem dX1_two_12 : decode cX1_two 12 = .ok (.getfield 10, 3) := by decide +kernel
theorem dX1_two_15 : decode cX1_two 15 = .ok (.iload_n 2, 1) := by decide +kernel
theorem dX1_two_16 : decode cX1_two 16 = .ok (.invokevirtual 169, 3) := by decide +kernel
theorem dX1_two_19 : decode cX1_two 19 = .ok (.ifCond .eq 12, 3) := by decide +kernel
theorem dX1_two_22 : decode cX1_two 22 = .ok (.iload_n 1, 1) := by decide +kernel
theorem dX1_two_23 : decode cX1_two 23 = .ok (.iload_n 2, 1) := by decide +kernel
theorem dX1_two_24 : decode cX1_two 24 = .ok (.if_icmp .eq 7, 3) := by decide +kernel
theorem dX1_two_27 : decode cX1_two 27 = .ok (.iconst 1, 1) := by decide +kernel
theorem dX1_two_28 : decode cX1_two 28 = .ok (.goto 4, 3) := by decide +kernel
theorem dX1_two_31 : decode cX1_two 31 = .ok (.iconst 0, 1) := by decide +kernel
theorem dX1_two_32 : decode cX1_two 32 = .ok (.istore 4, 2) := by decide +kernel
theorem dX1_two_34 : decode cX1_two 34 = .ok (.iload 4, 2) := by decide +kernel
theorem dX1_two_36 : decode cX1_two 36 = .ok (.ifCond .eq 7, 3) := by decide +kernel
theorem dX1_two_39 : decode cX1_two 39 = .ok (.iconst 0, 1) := by decide +kernel
theorem dX1_two_40 : decode cX1_two 40 = .ok (.goto 4, 3) := by decide +kernel
theorem dX1_two_43 : decode cX1_two 43 = .ok (.iconst (-1), 1) := by decide +kernel
theorem dX1_two_44 : decode cX1_two 44 = .ok (.iload_n 3, 1) := by decide +kernel
theorem dX1_two_45 : decode cX1_two 45 = .ok (.iconst 0, 1) := by decide +kernel
theorem dX1_two_46 : decode cX1_two 46 = .ok (.bipush 99, 2) := by decide +kernel
theorem dX1_two_48 : decode cX1_two 48 = .ok (.invokestatic 35, 3) := by decide +kernel
theorem dX1_two_51 : decode cX1_two 51 = .ok (.invokestatic 115, 3) := by decide +kernel
theorem dX1_two_54 : decode cX1_two 54 = .ok (.istore 5, 2) := by decide +kernel
theorem dX1_two_56 : decode cX1_two 56 = .ok (.iload 5, 2) := by decide +kernel
theorem dX1_two_58 : decode cX1_two 58 = .ok (.ifCond .eq 10, 3) := by decide +kernel
theorem dX1_two_61 : decode cX1_two 61 = .ok (.aload_n 0, 1) := by decide +kernel
theorem dX1_two_62 : decode cX1_two 62 = .ok (.iload 5, 2) := by decide +kernel
theorem dX1_two_64 : decode cX1_two 64 = .ok (.invokevirtual 43, 3) := by decide +kernel
theorem dX1_two_67 : decode cX1_two 67 = .ok (.ireturn, 1) := by decide +kernel
theorem dX1_two_68 : decode cX1_two 68 = .ok (.aload_n 0, 1) := by decide +kernel
theorem dX1_two_69 : decode cX1_two 69 = .ok (.bipush (-9), 2) := by decide +kernel
theorem dX1_two_71 : decode cX1_two 71 = .ok (.bipush (-9), 2) := by decide +kernel
theorem dX1_two_73 : decode cX1_two 73 = .ok (.iload_n 3, 1) := by decide +kernel
theorem dX1_two_74 : decode cX1_two 74 = .ok (.invokevirtual 202, 3) := by decide +kernel
theorem dX1_two_77 : decode cX1_two 77 = .ok (.istore 6, 2) := by decide +kernel
theorem dX1_two_79 : decode cX1_two 79 = .ok (.aload_n 0, 1) := by decide +kernel
theorem dX1_two_80 : decode cX1_two 80 = .ok (.bipush (-9), 2) := by decide +kernel
theorem dX1_two_82 : decode cX1_two 82 = .ok (.iload_n 2, 1) := by decide +kernel
theorem dX1_two_83 : decode cX1_two 83 = .ok (.iload_n 3, 1) := by decide +kernel
theorem dX1_two_84 : decode cX1_two 84 = .ok (.invokevirtual 202, 3) := by decide +kernel
theorem dX1_two_87 : decode cX1_two 87 = .ok (.istore 7, 2) := by decide +kernel
theorem dX1_two_89 : decode cX1_two 89 = .ok (.aload_n 0, 1) := by decide +kernel
theorem dX1_two_90 : decode cX1_two 90 = .ok (.iload_n 1, 1) := by decide +kernel
theorem dX1_two_91 : decode cX1_two 91 = .ok (.bipush (-9), 2) := by decide +kernel
theorem dX1_two_93 : decode cX1_two 93 = .ok (.iload_n 3, 1) := by decide +kernel
theorem dX1_two_94 : decode cX1_two 94 = .ok (.invokevirtual 202, 3) := by decide +kernel
theorem dX1_two_97 : decode cX1_two 97 = .ok (.istore 8, 2) := by decide +kernel
theorem dX1_two_99 : decode cX1_two 99 = .ok (.aload_n 0, 1) := by decide +kernel
theorem dX1_two_100 : decode cX1_two 100 = .ok (.iload_n 1, 1) := by decide +kernel
theorem dX1_two_101 : decode cX1_two 101 = .ok (.iload_n 2, 1) := by decide +kernel
theorem dX1_two_102 : decode cX1_two 102 = .ok (.iload_n 3, 1) := by decide +kernel
theorem dX1_two_103 : decode cX1_two 103 = .ok (.invokevirtual 202, 3) := by decide +kernel
theorem dX1_two_106 : decode cX1_two 106 = .ok (.istore 9, 2) := by decide +kernel
theorem dX1_two_108 : decode cX1_two 108 = .ok (.iload 6, 2) := by decide +kernel
theorem dX1_two_110 : decode cX1_two 110 = .ok (.iload 8, 2) := by decide +kernel
theorem dX1_two_112 : decode cX1_two 112 = .ok (.iload 7, 2) := by decide +kernel
theorem dX1_two_114 : decode cX1_two 114 = .ok (.invokestatic 205, 3) := by decide +kernel
theorem dX1_two_117 : decode cX1_two 117 = .ok (.ifCond .eq 5, 3) := by decide +kernel
theorem dX1_two_120 : decode cX1_two 120 = .ok (.iconst 0, 1) := by decide +kernel
theorem dX1_two_121 : decode cX1_two 121 = .ok (.ireturn, 1) := by decide +kernel
theorem dX1_two_122 : decode cX1_two 122 = .ok (.iload 7, 2) := by decide +kernel
theorem dX1_two_124 : decode cX1_two 124 = .ok (.iload 9, 2) := by decide +kernel
theorem dX1_two_126 : decode cX1_two 126 = .ok (.iload 6, 2) := by decide +kernel
theorem dX1_two_128 : decode cX1_two 128 = .ok (.invokestatic 205, 3) := by decide +kernel
theorem dX1_two_131 : decode cX1_two 131 = .ok (.ifCond .eq 5, 3) := by decide +kernel
theorem dX1_two_134 : decode cX1_two 134 = .ok (.iconst 1, 1) := by decide +kernel
theorem dX1_two_135 : decode cX1_two 135 = .ok (.ireturn, 1) := by decide +kernel
theorem dX1_two_136 : decode cX1_two 136 = .ok (.iload 8, 2) := by decide +kernel
theorem dX1_two_138 : decode cX1_two 138 = .ok (.iload 6, 2) := by decide +kernel
theorem dX1_two_140 : decode cX1_two 140 = .ok (.iload 9, 2) := by decide +kernel
theorem dX1_two_142 : decode cX1_two 142 = .ok (.invokestatic 205, 3) := by decide +kernel
theorem dX1_two_145 : decode cX1_two 145 = .ok (.ifCond .eq 6, 3) := by decide +kernel
theorem dX1_two_148 : decode cX1_two 148 = .ok (.bipush 10, 2) := by decide +kernel
theorem dX1_two_150 : decode cX1_two 150 = .ok (.ireturn, 1) := by decide +kernel
theorem dX1_two_151 : decode cX1_two 151 = .ok (.iload 9, 2) := by decide +kernel
theorem dX1_two_153 : decode cX1_two 153 = .ok (.iload 7, 2) := by decide +kernel
theorem dX1_two_155 : decode cX1_two 155 = .ok (.iload 8, 2) := by decide +kernel
theorem dX1_two_157 : decode cX1_two 157 = .ok (.invokestatic 205, 3) := by decide +kernel
theorem dX1_two_160 : decode cX1_two 160 = .ok (.ifCond .eq 8, 3) := by decide +kernel
theorem dX1_two_163 : decode cX1_two 163 = .ok (.bipush 11, 2) := by decide +kernel
theorem dX1_two_165 : decode cX1_two 165 = .ok (.goto 5, 3) := by decide +kernel
theorem dX1_two_168 : decode cX1_two 168 = .ok (.bipush (-9), 2) := by decide +kernel
theorem dX1_two_170 : decode cX1_two 170 = .ok (.ireturn, 1) := by decide +kernel
theorem dX1_whatWas_0 : decode cX1_whatWas 0 = .ok (.iload_n 2, 1) := by decide +kernel
theorem dX1_whatWas_1 : decode cX1_whatWas 1 = .ok (.iconst 1, 1) := by decide +kernel
theorem dX1_whatWas_2 : decode cX1_whatWas 2 = .ok (.invokestatic 51, 3) := by decide +kernel
theorem dX1_whatWas_5 : decode cX1_whatWas 5 = .ok (.aload_n 0, 1) := by decide +kernel
theorem dX1_whatWas_6 : decode cX1_whatWas 6 = .ok (.getfield 208, 3) := by decide +kernel
theorem dX1_whatWas_9 : decode cX1_whatWas 9 = .ok (.aload_n 0, 1) := by decide +kernel
theorem dX1_whatWas_10 : decode cX1_whatWas 10 = .ok (.getfield 10, 3) := by decide +kernel
theorem dX1_whatWas_13 : decode cX1_whatWas 13 = .ok (.getfield 163, 3) := by decide +kernel
theorem dX1_whatWas_16 : decode cX1_whatWas 16 = .ok (.if_icmp .ne 7, 3) := by decide +kernel
theorem dX1_whatWas_19 : decode cX1_whatWas 19 = .ok (.iconst 0, 1) := by decide +kernel
theorem dX1_whatWas_20 : decode cX1_whatWas 20 = .ok (.goto 5, 3) := by decide +kernel
theorem dX1_whatWas_23 : decode cX1_whatWas 23 = .ok (.bipush (-3), 2) := by decide +kernel
theorem dX1_whatWas_25 : decode cX1_whatWas 25 = .ok (.invokestatic 115, 3) := by decide +kernel
theorem dX1_whatWas_28 : decode cX1_whatWas 28 = .ok (.istore_n 3, 1) := by decide +kernel
theorem dX1_whatWas_29 : decode cX1_whatWas 29 = .ok (.aload_n 0, 1) := by decide +kernel
theorem dX1_whatWas_30 : decode cX1_whatWas 30 = .ok (.iload_n 1, 1) := by decide +kernel
theorem dX1_whatWas_31 : decode cX1_whatWas 31 = .ok (.iload_n 3, 1) := by decide +kernel
theorem dX1_whatWas_32 : decode cX1_whatWas 32 = .ok (.invokevirtual 55, 3) := by decide +kernel
theorem dX1_whatWas_35 : decode cX1_whatWas 35 = .ok (.istore 4, 2) := by decide +kernel
theorem dX1_whatWas_37 : decode cX1_whatWas 37 = .ok (.iload 4, 2) := by decide +kernel
theorem dX1_whatWas_39 : decode cX1_whatWas 39 = .ok (.ifCond .eq 10, 3) := by decide +kernel
theorem dX1_whatWas_42 : decode cX1_whatWas 42 = .ok (.aload_n 0, 1) := by decide +kernel
theorem dX1_whatWas_43 : decode cX1_whatWas 43 = .ok (.iload 4, 2) := by decide +kernel
theorem dX1_whatWas_45 : decode cX1_whatWas 45 = .ok (.invokevirtual 43, 3) := by decide +kernel
theorem dX1_whatWas_48 : decode cX1_whatWas 48 = .ok (.ireturn, 1) := by decide +kernel
theorem dX1_whatWas_49 : decode cX1_whatWas 49 = .ok (.iload_n 2, 1) := by decide +kernel
theorem dX1_whatWas_50 : decode cX1_whatWas 50 = .ok (.ifCond .ne 11, 3) := by decide +kernel
theorem dX1_whatWas_53 : decode cX1_whatWas 53 = .ok (.aload_n 0, 1) := by decide +kernel
theorem dX1_whatWas_54 : decode cX1_whatWas 54 = .ok (.iload_n 1, 1) := by decide +kernel
theorem dX1_whatWas_55 : decode cX1_whatWas 55 = .ok (.invokevirtual 211, 3) := by decide +kernel
theorem dX1_whatWas_58 : decode cX1_whatWas 58 = .ok (.goto 8, 3) := by decide +kernel
theorem dX1_whatWas_61 : decode cX1_whatWas 61 = .ok (.aload_n 0, 1) := by decide +kernel
theorem dX1_whatWas_62 : decode cX1_whatWas 62 = .ok (.iload_n 1, 1) := by decide +kernel
theorem dX1_whatWas_63 : decode cX1_whatWas 63 = .ok (.invokevirtual 214, 3) := by decide +kernel
theorem dX1_whatWas_66 : decode cX1_whatWas 66 = .ok (.ireturn, 1) := by decide +kernel
theorem dX1_row_0 : decode cX1_row 0 = .ok (.iload_n 1, 1) := by decide +kernel
theorem dX1_row_1 : decode cX1_row 1 = .ok (.iconst 0, 1) := by decide +kernel
theorem dX1_row_2 : decode cX1_row 2 = .ok (.bipush 99, 2) := by decide +kernel
theorem dX1_row_4 : decode cX1_row 4 = .ok (.invokestatic 35, 3) := by decide +kernel
theorem dX1_row_7 : decode cX1_row 7 = .ok (.istore_n 2, 1) := by decide +kernel
theorem dX1_row_8 : decode cX1_row 8 = .ok (.iload_n 2, 1) := by decide +kernel
theorem dX1_row_9 : decode cX1_row 9 = .ok (.ifCond .ne 15, 3) := by decide +kernel
theorem dX1_row_12 : decode cX1_row 12 = .ok (.aload_n 0, 1) := by decide +kernel
theorem dX1_row_13 : decode cX1_row 13 = .ok (.getfield 208, 3) := by decide +kernel
theorem dX1_row_16 : decode cX1_row 16 = .ok (.bipush 16, 2) := by decide +kernel
theorem dX1_row_18 : decode cX1_row 18 = .ok (.if_icmp .lt 6, 3) := by decide +kernel
theorem dX1_row_21 : decode cX1_row 21 = .ok (.bipush (-6), 2) := by decide +kernel
theorem dX1_row_23 : decode cX1_row 23 = .ok (.istore_n 2, 1) := by decide +kernel
theorem dX1_row_24 : decode cX1_row 24 = .ok (.iload_n 2, 1) := by decide +kernel
theorem dX1_row_25 : decode cX1_row 25 = .ok (.ifCond .eq 9, 3) := by decide +kernel
theorem dX1_row_28 : decode cX1_row 28 = .ok (.aload_n 0, 1) := by decide +kernel
theorem dX1_row_29 : decode cX1_row 29 = .ok (.iload_n 2, 1) := by decide +kernel
theorem dX1_row_30 : decode cX1_row 30 = .ok (.invokevirtual 43, 3) := by decide +kernel
theorem dX1_row_33 : decode cX1_row 33 = .ok (.ireturn, 1) := by decide +kernel
theorem dX1_row_34 : decode cX1_row 34 = .ok (.aload_n 0, 1) := by decide +kernel
theorem dX1_row_35 : decode cX1_row 35 = .ok (.getfield 26, 3) := by decide +kernel
theorem dX1_row_38 : decode cX1_row 38 = .ok (.aload_n 0, 1) := by decide +kernel
theorem dX1_row_39 : decode cX1_row 39 = .ok (.getfield 208, 3) := by decide +kernel
theorem dX1_row_42 : decode cX1_row 42 = .ok (.iload_n 1, 1) := by decide +kernel
theorem dX1_row_43 : decode cX1_row 43 = .ok (.iastore, 1) := by decide +kernel
theorem dX1_row_44 : decode cX1_row 44 = .ok (.aload_n 0, 1) := by decide +kernel
theorem dX1_row_45 : decode cX1_row 45 = .ok (.dup, 1) := by decide +kernel
theorem dX1_row_46 : decode cX1_row 46 = .ok (.getfield 208, 3) := by decide +kernel
theorem dX1_row_49 : decode cX1_row 49 = .ok (.iconst 1, 1) := by decide +kernel
theorem dX1_row_50 : decode cX1_row 50 = .ok (.iadd, 1) := by decide +kernel
theorem dX1_row_51 : decode cX1_row 51 = .ok (.putfield 208, 3) := by decide +kernel
theorem dX1_row_54 : decode cX1_row 54 = .ok (.aload_n 0, 1) := by decide +kernel
theorem dX1_row_55 : decode cX1_row 55 = .ok (.getfield 208, 3) := by decide +kernel
theorem dX1_row_58 : decode cX1_row 58 = .ok (.ireturn, 1) := by decide +kernel
theorem dX1_judge_0 : decode cX1_judge 0 = .ok (.aload_n 0, 1) := by decide +kernel
theorem dX1_judge_1 : decode cX1_judge 1 = .ok (.invokevirtual 217, 3) := by decide +kernel
theorem dX1_judge_4 : decode cX1_judge 4 = .ok (.istore_n 1, 1) := by decide +kernel
theorem dX1_judge_5 : decode cX1_judge 5 = .ok (.aload_n 0, 1) := by decide +kernel
theorem dX1_judge_6 : decode cX1_judge 6 = .ok (.iconst 0, 1) := by decide +kernel
theorem dX1_judge_7 : decode cX1_judge 7 = .ok (.putfield 208, 3) := by decide +kernel
theorem dX1_judge_10 : decode cX1_judge 10 = .ok (.iload_n 1, 1) := by decide +kernel
theorem dX1_judge_11 : decode cX1_judge 11 = .ok (.ireturn, 1) := by decide +kernel
theorem dX1_clear_0 : decode cX1_clear 0 = .ok (.aload_n 0, 1) := by decide +kernel
theorem dX1_clear_1 : decode cX1_clear 1 = .ok (.getfield 208, 3) := by decide +kernel
theorem dX1_clear_4 : decode cX1_clear 4 = .ok (.istore_n 1, 1) := by decide +kernel
theorem dX1_clear_5 : decode cX1_clear 5 = .ok (.aload_n 0, 1) := by decide +kernel
theorem dX1_clear_6 : decode cX1_clear 6 = .ok (.iconst 0, 1) := by decide +kernel
theorem dX1_clear_7 : decode cX1_clear 7 = .ok (.putfield 208, 3) := by decide +kernel
theorem dX1_clear_10 : decode cX1_clear 10 = .ok (.iload_n 1, 1) := by decide +kernel
theorem dX1_clear_11 : decode cX1_clear 11 = .ok (.ireturn, 1) := by decide +kernel
theorem dX1_lots_0 : decode cX1_lots 0 = .ok (.iload_n 1, 1) := by decide +kernel
theorem dX1_lots_1 : decode cX1_lots 1 = .ok (.iconst 1, 1) := by decide +kernel
theorem dX1_lots_2 : decode cX1_lots 2 = .ok (.bipush 20, 2) := by decide +kernel
theorem dX1_lots_4 : decode cX1_lots 4 = .ok (.invokestatic 35, 3) := by decide +kernel
theorem dX1_lots_7 : decode cX1_lots 7 = .ok (.iload_n 3, 1) := by decide +kernel
theorem dX1_lots_8 : decode cX1_lots 8 = .ok (.iconst 1, 1) := by decide +kernel
theorem dX1_lots_9 : decode cX1_lots 9 = .ok (.invokestatic 51, 3) := by decide +kernel
theorem dX1_lots_12 : decode cX1_lots 12 = .ok (.invokestatic 115, 3) := by decide +kernel
theorem dX1_lots_15 : decode cX1_lots 15 = .ok (.istore 4, 2) := by decide +kernel
theorem dX1_lots_17 : decode cX1_lots 17 = .ok (.iload 4, 2) := by decide +kernel
theorem dX1_lots_19 : decode cX1_lots 19 = .ok (.ifCond .ne 17, 3) := by decide +kernel
theorem dX1_lots_22 : decode cX1_lots 22 = .ok (.aload_n 0, 1) := by decide +kernel
theorem dX1_lots_23 : decode cX1_lots 23 = .ok (.getfield 10, 3) := by decide +kernel
theorem dX1_lots_26 : decode cX1_lots 26 = .ok (.getfield 163, 3) := by decide +kernel
theorem dX1_lots_29 : decode cX1_lots 29 = .ok (.ifCond .ne 7, 3) := by decide +kernel
theorem dX1_lots_32 : decode cX1_lots 32 = .ok (.bipush (-3), 2) := by decide +kernel
theorem dX1_lots_34 : decode cX1_lots 34 = .ok (.istore 4, 2) := by decide +kernel
theorem dX1_lots_36 : decode cX1_lots 36 = .ok (.iload 4, 2) := by decide +kernel
theorem dX1_lots_38 : decode cX1_lots 38 = .ok (.ifCond .eq 10, 3) := by decide +kernel
theorem dX1_lots_41 : decode cX1_lots 41 = .ok (.aload_n 0, 1) := by decide +kernel
theorem dX1_lots_42 : decode cX1_lots 42 = .ok (.iload 4, 2) := by decide +kernel
theorem dX1_lots_44 : decode cX1_lots 44 = .ok (.invokevirtual 43, 3) := by decide +kernel
theorem dX1_lots_47 : decode cX1_lots 47 = .ok (.ireturn, 1) := by decide +kernel
theorem dX1_lots_48 : decode cX1_lots 48 = .ok (.aload_n 0, 1) := by decide +kernel
theorem dX1_lots_49 : decode cX1_lots 49 = .ok (.iload_n 2, 1) := by decide +kernel
theorem dX1_lots_50 : decode cX1_lots 50 = .ok (.putfield 220, 3) := by decide +kernel
theorem dX1_lots_53 : decode cX1_lots 53 = .ok (.iconst 0, 1) := by decide +kernel
theorem dX1_lots_54 : decode cX1_lots 54 = .ok (.istore 5, 2) := by decide +kernel
theorem dX1_lots_56 : decode cX1_lots 56 = .ok (.iconst 0, 1) := by decide +kernel
theorem dX1_lots_57 : decode cX1_lots 57 = .ok (.istore 6, 2) := by decide +kernel
theorem dX1_lots_59 : decode cX1_lots 59 = .ok (.iconst 0, 1) := by decide +kernel
theorem dX1_lots_60 : decode cX1_lots 60 = .ok (.istore 7, 2) := by decide +kernel
theorem dX1_lots_62 : decode cX1_lots 62 = .ok (.iload 7, 2) := by decide +kernel
theorem dX1_lots_64 : decode cX1_lots 64 = .ok (.iload_n 1, 1) := by decide +kernel
theorem dX1_lots_65 : decode cX1_lots 65 = .ok (.if_icmp .ge 40, 3) := by decide +kernel
theorem dX1_lots_68 : decode cX1_lots 68 = .ok (.aload_n 0, 1) := by decide +kernel
theorem dX1_lots_69 : decode cX1_lots 69 = .ok (.invokevirtual 223, 3) := by decide +kernel
theorem dX1_lots_72 : decode cX1_lots 72 = .ok (.iload 5, 2) := by decide +kernel
theorem dX1_lots_74 : decode cX1_lots 74 = .ok (.aload_n 0, 1) := by decide +kernel
theorem dX1_lots_75 : decode cX1_lots 75 = .ok (.getfield 16, 3) := by decide +kernel
theorem dX1_lots_78 : decode cX1_lots 78 = .ok (.invokevirtual 128, 3) := by decide +kernel
theorem dX1_lots_81 : decode cX1_lots 81 = .ok (.iadd, 1) := by decide +kernel
theorem dX1_lots_82 : decode cX1_lots 82 = .ok (.istore 5, 2) := by decide +kernel
theorem dX1_lots_84 : decode cX1_lots 84 = .ok (.iload 6, 2) := by decide +kernel
theorem dX1_lots_86 : decode cX1_lots 86 = .ok (.aload_n 0, 1) := by decide +kernel
theorem dX1_lots_87 : decode cX1_lots 87 = .ok (.getfield 16, 3) := by decide +kernel
theorem dX1_lots_90 : decode cX1_lots 90 = .ok (.getfield 153, 3) := by decide +kernel
theorem dX1_lots_93 : decode cX1_lots 93 = .ok (.invokestatic 93, 3) := by decide +kernel
theorem dX1_lots_96 : decode cX1_lots 96 = .ok (.iadd, 1) := by decide +kernel
theorem dX1_lots_97 : decode cX1_lots 97 = .ok (.istore 6, 2) := by decide +kernel
theorem dX1_lots_99 : decode cX1_lots 99 = .ok (.iinc 7 1, 3) := by decide +kernel
theorem dX1_lots_102 : decode cX1_lots 102 = .ok (.goto (-40), 3) := by decide +kernel
theorem dX1_lots_105 : decode cX1_lots 105 = .ok (.iload_n 3, 1) := by decide +kernel
theorem dX1_lots_106 : decode cX1_lots 106 = .ok (.ifCond .ne 8, 3) := by decide +kernel
theorem dX1_lots_109 : decode cX1_lots 109 = .ok (.iload 5, 2) := by decide +kernel
theorem dX1_lots_111 : decode cX1_lots 111 = .ok (.goto 5, 3) := by decide +kernel
theorem dX1_lots_114 : decode cX1_lots 114 = .ok (.iload 6, 2) := by decide +kernel
theorem dX1_lots_116 : decode cX1_lots 116 = .ok (.ireturn, 1) := by decide +kernel
theorem dX1_image_0 : decode cX1_image 0 = .ok (.aload_n 0, 1) := by decide +kernel
theorem dX1_image_1 : decode cX1_image 1 = .ok (.getfield 19, 3) := by decide +kernel
theorem dX1_image_4 : decode cX1_image 4 = .ok (.aload_n 0, 1) := by decide +kernel
theorem dX1_image_5 : decode cX1_image 5 = .ok (.getfield 10, 3) := by decide +kernel
theorem dX1_image_8 : decode cX1_image 8 = .ok (.invokevirtual 131, 3) := by decide +kernel
theorem dX1_image_11 : decode cX1_image 11 = .ok (.aload_n 0, 1) := by decide +kernel
theorem dX1_image_12 : decode cX1_image 12 = .ok (.iconst 1, 1) := by decide +kernel
theorem dX1_image_13 : decode cX1_image 13 = .ok (.putfield 226, 3) := by decide +kernel
theorem dX1_image_16 : decode cX1_image 16 = .ok (.aload_n 0, 1) := by decide +kernel
theorem dX1_image_17 : decode cX1_image 17 = .ok (.getfield 10, 3) := by decide +kernel
theorem dX1_image_20 : decode cX1_image 20 = .ok (.getfield 229, 3) := by decide +kernel
theorem dX1_image_23 : decode cX1_image 23 = .ok (.ireturn, 1) := by decide +kernel
theorem dX1_on_0 : decode cX1_on 0 = .ok (.aload_n 0, 1) := by decide +kernel
theorem dX1_on_1 : decode cX1_on 1 = .ok (.getfield 226, 3) := by decide +kernel
theorem dX1_on_4 : decode cX1_on 4 = .ok (.ifCond .ne 10, 3) := by decide +kernel
theorem dX1_on_7 : decode cX1_on 7 = .ok (.aload_n 0, 1) := by decide +kernel
theorem dX1_on_8 : decode cX1_on 8 = .ok (.bipush (-3), 2) := by decide +kernel
theorem dX1_on_10 : decode cX1_on 10 = .ok (.invokevirtual 43, 3) := by decide +kernel
theorem dX1_on_13 : decode cX1_on 13 = .ok (.ireturn, 1) := by decide +kernel
theorem dX1_on_14 : decode cX1_on 14 = .ok (.aload_n 0, 1) := by decide +kernel
theorem dX1_on_15 : decode cX1_on 15 = .ok (.getfield 10, 3) := by decide +kernel
theorem dX1_on_18 : decode cX1_on 18 = .ok (.aload_n 0, 1) := by decide +kernel
theorem dX1_on_19 : decode cX1_on 19 = .ok (.getfield 19, 3) := by decide +kernel
theorem dX1_on_22 : decode cX1_on 22 = .ok (.invokevirtual 131, 3) := by decide +kernel
theorem dX1_on_25 : decode cX1_on 25 = .ok (.aload_n 0, 1) := by decide +kernel
theorem dX1_on_26 : decode cX1_on 26 = .ok (.getfield 10, 3) := by decide +kernel
theorem dX1_on_29 : decode cX1_on 29 = .ok (.getfield 229, 3) := by decide +kernel
theorem dX1_on_32 : decode cX1_on 32 = .ok (.ireturn, 1) := by decide +kernel
theorem dX1_count_0 : decode cX1_count 0 = .ok (.iload_n 1, 1) := by decide +kernel
theorem dX1_count_1 : decode cX1_count 1 = .ok (.tableswitch 108 0 7 #[47, 55, 63, 71, 79, 87, 98, 103], 47) := by decide +kernel
theorem dX1_count_48 : decode cX1_count 48 = .ok (.aload_n 0, 1) := by decide +kernel
theorem dX1_count_49 : decode cX1_count 49 = .ok (.getfield 10, 3) := by decide +kernel
theorem dX1_count_52 : decode cX1_count 52 = .ok (.getfield 163, 3) := by decide +kernel
theorem dX1_count_55 : decode cX1_count 55 = .ok (.ireturn, 1) := by decide +kernel
theorem dX1_count_56 : decode cX1_count 56 = .ok (.aload_n 0, 1) := by decide +kernel
theorem dX1_count_57 : decode cX1_count 57 = .ok (.getfield 10, 3) := by decide +kernel
theorem dX1_count_60 : decode cX1_count 60 = .ok (.getfield 229, 3) := by decide +kernel
theorem dX1_count_63 : decode cX1_count 63 = .ok (.ireturn, 1) := by decide +kernel
theorem dX1_count_64 : decode cX1_count 64 = .ok (.aload_n 0, 1) := by decide +kernel
theorem dX1_count_65 : decode cX1_count 65 = .ok (.getfield 10, 3) := by decide +kernel
theorem dX1_count_68 : decode cX1_count 68 = .ok (.getfield 156, 3) := by decide +kernel
theorem dX1_count_71 : decode cX1_count 71 = .ok (.ireturn, 1) := by decide +kernel
theorem dX1_count_72 : decode cX1_count 72 = .ok (.aload_n 0, 1) := by decide +kernel
theorem dX1_count_73 : decode cX1_count 73 = .ok (.getfield 10, 3) := by decide +kernel
theorem dX1_count_76 : decode cX1_count 76 = .ok (.getfield 153, 3) := by decide +kernel
theorem dX1_count_79 : decode cX1_count 79 = .ok (.ireturn, 1) := by decide +kernel
theorem dX1_count_80 : decode cX1_count 80 = .ok (.aload_n 0, 1) := by decide +kernel
theorem dX1_count_81 : decode cX1_count 81 = .ok (.getfield 10, 3) := by decide +kernel
theorem dX1_count_84 : decode cX1_count 84 = .ok (.invokevirtual 232, 3) := by decide +kernel
theorem dX1_count_87 : decode cX1_count 87 = .ok (.ireturn, 1) := by decide +kernel
theorem dX1_count_88 : decode cX1_count 88 = .ok (.aload_n 0, 1) := by decide +kernel
theorem dX1_count_89 : decode cX1_count 89 = .ok (.getfield 10, 3) := by decide +kernel
theorem dX1_count_92 : decode cX1_count 92 = .ok (.getfield 98, 3) := by decide +kernel
theorem dX1_count_95 : decode cX1_count 95 = .ok (.invokestatic 83, 3) := by decide +kernel
theorem dX1_count_98 : decode cX1_count 98 = .ok (.ireturn, 1) := by decide +kernel
theorem dX1_count_99 : decode cX1_count 99 = .ok (.aload_n 0, 1) := by decide +kernel
theorem dX1_count_100 : decode cX1_count 100 = .ok (.getfield 208, 3) := by decide +kernel
theorem dX1_count_103 : decode cX1_count 103 = .ok (.ireturn, 1) := by decide +kernel
theorem dX1_count_104 : decode cX1_count 104 = .ok (.aload_n 0, 1) := by decide +kernel
theorem dX1_count_105 : decode cX1_count 105 = .ok (.getfield 39, 3) := by decide +kernel
theorem dX1_count_108 : decode cX1_count 108 = .ok (.ireturn, 1) := by decide +kernel
theorem dX1_count_109 : decode cX1_count 109 = .ok (.iload_n 1, 1) := by decide +kernel
theorem dX1_count_110 : decode cX1_count 110 = .ok (.bipush 11, 2) := by decide +kernel
theorem dX1_count_112 : decode cX1_count 112 = .ok (.if_icmp .lt 21, 3) := by decide +kernel
theorem dX1_count_115 : decode cX1_count 115 = .ok (.iload_n 1, 1) := by decide +kernel
theorem dX1_count_116 : decode cX1_count 116 = .ok (.bipush 16, 2) := by decide +kernel
theorem dX1_count_118 : decode cX1_count 118 = .ok (.if_icmp .gt 15, 3) := by decide +kernel
theorem dX1_count_121 : decode cX1_count 121 = .ok (.aload_n 0, 1) := by decide +kernel
theorem dX1_count_122 : decode cX1_count 122 = .ok (.getfield 29, 3) := by decide +kernel
theorem dX1_count_125 : decode cX1_count 125 = .ok (.iload_n 1, 1) := by decide +kernel
theorem dX1_count_126 : decode cX1_count 126 = .ok (.bipush 10, 2) := by decide +kernel
theorem dX1_count_128 : decode cX1_count 128 = .ok (.isub, 1) := by decide +kernel
theorem dX1_count_129 : decode cX1_count 129 = .ok (.iaload, 1) := by decide +kernel
theorem dX1_count_130 : decode cX1_count 130 = .ok (.goto 5, 3) := by decide +kernel
theorem dX1_count_133 : decode cX1_count 133 = .ok (.bipush (-9), 2) := by decide +kernel
theorem dX1_count_135 : decode cX1_count 135 = .ok (.ireturn, 1) := by decide +kernel
theorem dX1_refuse_0 : decode cX1_refuse 0 = .ok (.iload_n 1, 1) := by decide +kernel
theorem dX1_refuse_1 : decode cX1_refuse 1 = .ok (.iconst (-1), 1) := by decide +kernel
theorem dX1_refuse_2 : decode cX1_refuse 2 = .ok (.if_icmp .gt 20, 3) := by decide +kernel
theorem dX1_refuse_5 : decode cX1_refuse 5 = .ok (.iload_n 1, 1) := by decide +kernel
theorem dX1_refuse_6 : decode cX1_refuse 6 = .ok (.bipush (-6), 2) := by decide +kernel
theorem dX1_refuse_8 : decode cX1_refuse 8 = .ok (.if_icmp .lt 14, 3) := by decide +kernel
theorem dX1_refuse_11 : decode cX1_refuse 11 = .ok (.aload_n 0, 1) := by decide +kernel
theorem dX1_refuse_12 : decode cX1_refuse 12 = .ok (.getfield 29, 3) := by decide +kernel
theorem dX1_refuse_15 : decode cX1_refuse 15 = .ok (.iload_n 1, 1) := by decide +kernel
theorem dX1_refuse_16 : decode cX1_refuse 16 = .ok (.ineg, 1) := by decide +kernel
theorem dX1_refuse_17 : decode cX1_refuse 17 = .ok (.dup2, 1) := by decide +kernel
theorem dX1_refuse_18 : decode cX1_refuse 18 = .ok (.iaload, 1) := by decide +kernel
theorem dX1_refuse_19 : decode cX1_refuse 19 = .ok (.iconst 1, 1) := by decide +kernel
theorem dX1_refuse_20 : decode cX1_refuse 20 = .ok (.iadd, 1) := by decide +kernel
theorem dX1_refuse_21 : decode cX1_refuse 21 = .ok (.iastore, 1) := by decide +kernel
theorem dX1_refuse_22 : decode cX1_refuse 22 = .ok (.iload_n 1, 1) := by decide +kernel
theorem dX1_refuse_23 : decode cX1_refuse 23 = .ok (.ireturn, 1) := by decide +kernel
theorem dX1_refusalOfThing_0 : decode cX1_refusalOfThing 0 = .ok (.aload_n 0, 1) := by decide +kernel
theorem dX1_refusalOfThing_1 : decode cX1_refusalOfThing 1 = .ok (.getfield 10, 3) := by decide +kernel
theorem dX1_refusalOfThing_4 : decode cX1_refusalOfThing 4 = .ok (.iload_n 1, 1) := by decide +kernel
theorem dX1_refusalOfThing_5 : decode cX1_refusalOfThing 5 = .ok (.invokevirtual 169, 3) := by decide +kernel
theorem dX1_refusalOfThing_8 : decode cX1_refusalOfThing 8 = .ok (.ifCond .eq 7, 3) := by decide +kernel
theorem dX1_refusalOfThing_11 : decode cX1_refusalOfThing 11 = .ok (.iload_n 2, 1) := by decide +kernel
theorem dX1_refusalOfThing_12 : decode cX1_refusalOfThing 12 = .ok (.goto 4, 3) := by decide +kernel
theorem dX1_refusalOfThing_15 : decode cX1_refusalOfThing 15 = .ok (.iconst (-1), 1) := by decide +kernel
theorem dX1_refusalOfThing_16 : decode cX1_refusalOfThing 16 = .ok (.ireturn, 1) := by decide +kernel
theorem dX1_refusalOfPull_0 : decode cX1_refusalOfPull 0 = .ok (.aload_n 0, 1) := by decide +kernel
theorem dX1_refusalOfPull_1 : decode cX1_refusalOfPull 1 = .ok (.iload_n 1, 1) := by decide +kernel
theorem dX1_refusalOfPull_2 : decode cX1_refusalOfPull 2 = .ok (.iload_n 2, 1) := by decide +kernel
theorem dX1_refusalOfPull_3 : decode cX1_refusalOfPull 3 = .ok (.aload_n 0, 1) := by decide +kernel
theorem dX1_refusalOfPull_4 : decode cX1_refusalOfPull 4 = .ok (.getfield 10, 3) := by decide +kernel
theorem dX1_refusalOfPull_7 : decode cX1_refusalOfPull 7 = .ok (.iload_n 1, 1) := by decide +kernel
theorem dX1_refusalOfPull_8 : decode cX1_refusalOfPull 8 = .ok (.invokevirtual 166, 3) := by decide +kernel
theorem dX1_refusalOfPull_11 : decode cX1_refusalOfPull 11 = .ok (.ifCond .eq 7, 3) := by decide +kernel
theorem dX1_refusalOfPull_14 : decode cX1_refusalOfPull 14 = .ok (.iconst 0, 1) := by decide +kernel
theorem dX1_refusalOfPull_15 : decode cX1_refusalOfPull 15 = .ok (.goto 5, 3) := by decide +kernel
theorem dX1_refusalOfPull_18 : decode cX1_refusalOfPull 18 = .ok (.bipush (-3), 2) := by decide +kernel
theorem dX1_refusalOfPull_20 : decode cX1_refusalOfPull 20 = .ok (.invokestatic 115, 3) := by decide +kernel
theorem dX1_refusalOfPull_23 : decode cX1_refusalOfPull 23 = .ok (.invokevirtual 55, 3) := by decide +kernel
theorem dX1_refusalOfPull_26 : decode cX1_refusalOfPull 26 = .ok (.ireturn, 1) := by decide +kernel
theorem dX1_outside_0 : decode cX1_outside 0 = .ok (.iload_n 0, 1) := by decide +kernel
theorem dX1_outside_1 : decode cX1_outside 1 = .ok (.iload_n 1, 1) := by decide +kernel
theorem dX1_outside_2 : decode cX1_outside 2 = .ok (.if_icmp .ge 6, 3) := by decide +kernel
theorem dX1_outside_5 : decode cX1_outside 5 = .ok (.bipush (-4), 2) := by decide +kernel
theorem dX1_outside_7 : decode cX1_outside 7 = .ok (.ireturn, 1) := by decide +kernel
theorem dX1_outside_8 : decode cX1_outside 8 = .ok (.iload_n 0, 1) := by decide +kernel
theorem dX1_outside_9 : decode cX1_outside 9 = .ok (.iload_n 2, 1) := by decide +kernel
theorem dX1_outside_10 : decode cX1_outside 10 = .ok (.if_icmp .le 8, 3) := by decide +kernel
theorem dX1_outside_13 : decode cX1_outside 13 = .ok (.bipush (-6), 2) := by decide +kernel
theorem dX1_outside_15 : decode cX1_outside 15 = .ok (.goto 4, 3) := by decide +kernel
theorem dX1_outside_18 : decode cX1_outside 18 = .ok (.iconst 0, 1) := by decide +kernel
theorem dX1_outside_19 : decode cX1_outside 19 = .ok (.ireturn, 1) := by decide +kernel
theorem dX1_otherThan_0 : decode cX1_otherThan 0 = .ok (.iload_n 0, 1) := by decide +kernel
theorem dX1_otherThan_1 : decode cX1_otherThan 1 = .ok (.ifCond .lt 12, 3) := by decide +kernel
theorem dX1_otherThan_4 : decode cX1_otherThan 4 = .ok (.iload_n 0, 1) := by decide +kernel
theorem dX1_otherThan_5 : decode cX1_otherThan 5 = .ok (.iload_n 1, 1) := by decide +kernel
theorem dX1_otherThan_6 : decode cX1_otherThan 6 = .ok (.if_icmp .gt 7, 3) := by decide +kernel
theorem dX1_otherThan_9 : decode cX1_otherThan 9 = .ok (.iconst 0, 1) := by decide +kernel
theorem dX1_otherThan_10 : decode cX1_otherThan 10 = .ok (.goto 5, 3) := by decide +kernel
theorem dX1_otherThan_13 : decode cX1_otherThan 13 = .ok (.bipush (-2), 2) := by decide +kernel
theorem dX1_otherThan_15 : decode cX1_otherThan 15 = .ok (.ireturn, 1) := by decide +kernel
theorem dX1_firstOf_0 : decode cX1_firstOf 0 = .ok (.iload_n 0, 1) := by decide +kernel
theorem dX1_firstOf_1 : decode cX1_firstOf 1 = .ok (.ifCond .eq 7, 3) := by decide +kernel
theorem dX1_firstOf_4 : decode cX1_firstOf 4 = .ok (.iload_n 0, 1) := by decide +kernel
theorem dX1_firstOf_5 : decode cX1_firstOf 5 = .ok (.goto 4, 3) := by decide +kernel
theorem dX1_firstOf_8 : decode cX1_firstOf 8 = .ok (.iload_n 1, 1) := by decide +kernel
theorem dX1_firstOf_9 : decode cX1_firstOf 9 = .ok (.ireturn, 1) := by decide +kernel
theorem dX1_bit_0 : decode cX1_bit 0 = .ok (.iload_n 0, 1) := by decide +kernel
theorem dX1_bit_1 : decode cX1_bit 1 = .ok (.ifCond .eq 7, 3) := by decide +kernel
theorem dX1_bit_4 : decode cX1_bit 4 = .ok (.iconst 1, 1) := by decide +kernel
theorem dX1_bit_5 : decode cX1_bit 5 = .ok (.goto 4, 3) := by decide +kernel
theorem dX1_bit_8 : decode cX1_bit 8 = .ok (.iconst 0, 1) := by decide +kernel
theorem dX1_bit_9 : decode cX1_bit 9 = .ok (.ireturn, 1) := by decide +kernel
theorem dX1_readLetters_0 : decode cX1_readLetters 0 = .ok (.aload_n 0, 1) := by decide +kernel
theorem dX1_readLetters_1 : decode cX1_readLetters 1 = .ok (.invokevirtual 235, 3) := by decide +kernel
theorem dX1_readLetters_4 : decode cX1_readLetters 4 = .ok (.istore_n 1, 1) := by decide +kernel
theorem dX1_readLetters_5 : decode cX1_readLetters 5 = .ok (.iload_n 1, 1) := by decide +kernel
theorem dX1_readLetters_6 : decode cX1_readLetters 6 = .ok (.bipush (-9), 2) := by decide +kernel
theorem dX1_readLetters_8 : decode cX1_readLetters 8 = .ok (.if_icmp .eq 9, 3) := by decide +kernel
theorem dX1_readLetters_11 : decode cX1_readLetters 11 = .ok (.sipush (-1000), 3) := by decide +kernel
theorem dX1_readLetters_14 : decode cX1_readLetters 14 = .ok (.iload_n 1, 1) := by decide +kernel
theorem dX1_readLetters_15 : decode cX1_readLetters 15 = .ok (.isub, 1) := by decide +kernel
theorem dX1_readLetters_16 : decode cX1_readLetters 16 = .ok (.ireturn, 1) := by decide +kernel
theorem dX1_readLetters_17 : decode cX1_readLetters 17 = .ok (.aload_n 0, 1) := by decide +kernel
theorem dX1_readLetters_18 : decode cX1_readLetters 18 = .ok (.getfield 16, 3) := by decide +kernel
theorem dX1_readLetters_21 : decode cX1_readLetters 21 = .ok (.aload_n 0, 1) := by decide +kernel
theorem dX1_readLetters_22 : decode cX1_readLetters 22 = .ok (.getfield 10, 3) := by decide +kernel
theorem dX1_readLetters_25 : decode cX1_readLetters 25 = .ok (.invokevirtual 131, 3) := by decide +kernel
theorem dX1_readLetters_28 : decode cX1_readLetters 28 = .ok (.iconst 0, 1) := by decide +kernel
theorem dX1_readLetters_29 : decode cX1_readLetters 29 = .ok (.istore_n 2, 1) := by decide +kernel
theorem dX1_readLetters_30 : decode cX1_readLetters 30 = .ok (.iconst 0, 1) := by decide +kernel
theorem dX1_readLetters_31 : decode cX1_readLetters 31 = .ok (.istore_n 3, 1) := by decide +kernel
theorem dX1_readLetters_32 : decode cX1_readLetters 32 = .ok (.iload_n 3, 1) := by decide +kernel
theorem dX1_readLetters_33 : decode cX1_readLetters 33 = .ok (.aload_n 0, 1) := by decide +kernel
theorem dX1_readLetters_34 : decode cX1_readLetters 34 = .ok (.getfield 39, 3) := by decide +kernel
theorem dX1_readLetters_37 : decode cX1_readLetters 37 = .ok (.if_icmp .ge 40, 3) := by decide +kernel
theorem dX1_readLetters_40 : decode cX1_readLetters 40 = .ok (.aload_n 0, 1) := by decide +kernel
theorem dX1_readLetters_41 : decode cX1_readLetters 41 = .ok (.iload_n 3, 1) := by decide +kernel
theorem dX1_readLetters_42 : decode cX1_readLetters 42 = .ok (.invokevirtual 238, 3) := by decide +kernel
theorem dX1_readLetters_45 : decode cX1_readLetters 45 = .ok (.ifCond .ne 9, 3) := by decide +kernel
theorem dX1_readLetters_48 : decode cX1_readLetters 48 = .ok (.sipush (-2000), 3) := by decide +kernel
theorem dX1_readLetters_51 : decode cX1_readLetters 51 = .ok (.iload_n 3, 1) := by decide +kernel
theorem dX1_readLetters_52 : decode cX1_readLetters 52 = .ok (.isub, 1) := by decide +kernel
theorem dX1_readLetters_53 : decode cX1_readLetters 53 = .ok (.ireturn, 1) := by decide +kernel
theorem dX1_readLetters_54 : decode cX1_readLetters 54 = .ok (.iinc 2 1, 3) := by decide +kernel
theorem dX1_readLetters_57 : decode cX1_readLetters 57 = .ok (.iload_n 3, 1) := by decide +kernel
theorem dX1_readLetters_58 : decode cX1_readLetters 58 = .ok (.iconst 1, 1) := by decide +kernel
theorem dX1_readLetters_59 : decode cX1_readLetters 59 = .ok (.aload_n 0, 1) := by decide +kernel
theorem dX1_readLetters_60 : decode cX1_readLetters 60 = .ok (.getfield 22, 3) := by decide +kernel
theorem dX1_readLetters_63 : decode cX1_readLetters 63 = .ok (.iload_n 3, 1) := by decide +kernel
theorem dX1_readLetters_64 : decode cX1_readLetters 64 = .ok (.iaload, 1) := by decide +kernel
theorem dX1_readLetters_65 : decode cX1_readLetters 65 = .ok (.invokestatic 241, 3) := by decide +kernel
theorem dX1_readLetters_68 : decode cX1_readLetters 68 = .ok (.invokevirtual 245, 3) := by decide +kernel
theorem dX1_readLetters_71 : decode cX1_readLetters 71 = .ok (.iadd, 1) := by decide +kernel
theorem dX1_readLetters_72 : decode cX1_readLetters 72 = .ok (.iadd, 1) := by decide +kernel
theorem dX1_readLetters_73 : decode cX1_readLetters 73 = .ok (.istore_n 3, 1) := by decide +kernel
theorem dX1_readLetters_74 : decode cX1_readLetters 74 = .ok (.goto (-42), 3) := by decide +kernel
theorem dX1_readLetters_77 : decode cX1_readLetters 77 = .ok (.aload_n 0, 1) := by decide +kernel
theorem dX1_readLetters_78 : decode cX1_readLetters 78 = .ok (.getfield 10, 3) := by decide +kernel
theorem dX1_readLetters_81 : decode cX1_readLetters 81 = .ok (.aload_n 0, 1) := by decide +kernel
theorem dX1_readLetters_82 : decode cX1_readLetters 82 = .ok (.getfield 16, 3) := by decide +kernel
theorem dX1_readLetters_85 : decode cX1_readLetters 85 = .ok (.invokevirtual 131, 3) := by decide +kernel
theorem dX1_readLetters_88 : decode cX1_readLetters 88 = .ok (.iload_n 2, 1) := by decide +kernel
theorem dX1_readLetters_89 : decode cX1_readLetters 89 = .ok (.ireturn, 1) := by decide +kernel
theorem dX1_firstWrongLetter_0 : decode cX1_firstWrongLetter 0 = .ok (.ldc 250, 2) := by decide +kernel
theorem dX1_firstWrongLetter_2 : decode cX1_firstWrongLetter 2 = .ok (.astore_n 1, 1) := by decide +kernel
theorem dX1_firstWrongLetter_3 : decode cX1_firstWrongLetter 3 = .ok (.iconst 0, 1) := by decide +kernel
theorem dX1_firstWrongLetter_4 : decode cX1_firstWrongLetter 4 = .ok (.istore_n 2, 1) := by decide +kernel
theorem dX1_firstWrongLetter_5 : decode cX1_firstWrongLetter 5 = .ok (.iconst 0, 1) := by decide +kernel
theorem dX1_firstWrongLetter_6 : decode cX1_firstWrongLetter 6 = .ok (.istore_n 3, 1) := by decide +kernel
theorem dX1_firstWrongLetter_7 : decode cX1_firstWrongLetter 7 = .ok (.iload_n 3, 1) := by decide +kernel
theorem dX1_firstWrongLetter_8 : decode cX1_firstWrongLetter 8 = .ok (.aload_n 0, 1) := by decide +kernel
theorem dX1_firstWrongLetter_9 : decode cX1_firstWrongLetter 9 = .ok (.getfield 39, 3) := by decide +kernel
theorem dX1_firstWrongLetter_12 : decode cX1_firstWrongLetter 12 = .ok (.if_icmp .ge 63, 3) := by decide +kernel
theorem dX1_firstWrongLetter_15 : decode cX1_firstWrongLetter 15 = .ok (.iload_n 2, 1) := by decide +kernel
theorem dX1_firstWrongLetter_16 : decode cX1_firstWrongLetter 16 = .ok (.aload_n 1, 1) := by decide +kernel
theorem dX1_firstWrongLetter_17 : decode cX1_firstWrongLetter 17 = .ok (.invokevirtual 245, 3) := by decide +kernel
theorem dX1_firstWrongLetter_20 : decode cX1_firstWrongLetter 20 = .ok (.if_icmp .lt 24, 3) := by decide +kernel
theorem dX1_firstWrongLetter_23 : decode cX1_firstWrongLetter 23 = .ok (.aload_n 0, 1) := by decide +kernel
theorem dX1_firstWrongLetter_24 : decode cX1_firstWrongLetter 24 = .ok (.getfield 22, 3) := by decide +kernel
theorem dX1_firstWrongLetter_27 : decode cX1_firstWrongLetter 27 = .ok (.iload_n 3, 1) := by decide +kernel
theorem dX1_firstWrongLetter_28 : decode cX1_firstWrongLetter 28 = .ok (.iaload, 1) := by decide +kernel
theorem dX1_firstWrongLetter_29 : decode cX1_firstWrongLetter 29 = .ok (.invokestatic 241, 3) := by decide +kernel
theorem dX1_firstWrongLetter_32 : decode cX1_firstWrongLetter 32 = .ok (.astore_n 1, 1) := by decide +kernel
theorem dX1_firstWrongLetter_33 : decode cX1_firstWrongLetter 33 = .ok (.iconst 0, 1) := by decide +kernel
theorem dX1_firstWrongLetter_34 : decode cX1_firstWrongLetter 34 = .ok (.istore_n 2, 1) := by decide +kernel
theorem dX1_firstWrongLetter_35 : decode cX1_firstWrongLetter 35 = .ok (.aload_n 1, 1) := by decide +kernel
theorem dX1_firstWrongLetter_36 : decode cX1_firstWrongLetter 36 = .ok (.invokevirtual 252, 3) := by decide +kernel
theorem dX1_firstWrongLetter_39 : decode cX1_firstWrongLetter 39 = .ok (.ifCond .eq 30, 3) := by decide +kernel
theorem dX1_firstWrongLetter_42 : decode cX1_firstWrongLetter 42 = .ok (.iload_n 3, 1) := by decide +kernel
theorem dX1_firstWrongLetter_43 : decode cX1_firstWrongLetter 43 = .ok (.ireturn, 1) := by decide +kernel
theorem dX1_firstWrongLetter_44 : decode cX1_firstWrongLetter 44 = .ok (.aload_n 0, 1) := by decide +kernel
theorem dX1_firstWrongLetter_45 : decode cX1_firstWrongLetter 45 = .ok (.getfield 22, 3) := by decide +kernel
theorem dX1_firstWrongLetter_48 : decode cX1_firstWrongLetter 48 = .ok (.iload_n 3, 1) := by decide +kernel
theorem dX1_firstWrongLetter_49 : decode cX1_firstWrongLetter 49 = .ok (.iaload, 1) := by decide +kernel
theorem dX1_firstWrongLetter_50 : decode cX1_firstWrongLetter 50 = .ok (.aload_n 1, 1) := by decide +kernel
theorem dX1_firstWrongLetter_51 : decode cX1_firstWrongLetter 51 = .ok (.iload_n 2, 1) := by decide +kernel
theorem dX1_firstWrongLetter_52 : decode cX1_firstWrongLetter 52 = .ok (.invokevirtual 255, 3) := by decide +kernel
theorem dX1_firstWrongLetter_55 : decode cX1_firstWrongLetter 55 = .ok (.invokestatic 259, 3) := by decide +kernel
theorem dX1_firstWrongLetter_58 : decode cX1_firstWrongLetter 58 = .ok (.ifCond .eq 9, 3) := by decide +kernel
theorem dX1_firstWrongLetter_61 : decode cX1_firstWrongLetter 61 = .ok (.iinc 2 1, 3) := by decide +kernel
theorem dX1_firstWrongLetter_64 : decode cX1_firstWrongLetter 64 = .ok (.goto 5, 3) := by decide +kernel
theorem dX1_firstWrongLetter_67 : decode cX1_firstWrongLetter 67 = .ok (.iload_n 3, 1) := by decide +kernel
theorem dX1_firstWrongLetter_68 : decode cX1_firstWrongLetter 68 = .ok (.ireturn, 1) := by decide +kernel
theorem dX1_firstWrongLetter_69 : decode cX1_firstWrongLetter 69 = .ok (.iinc 3 1, 3) := by decide +kernel
theorem dX1_firstWrongLetter_72 : decode cX1_firstWrongLetter 72 = .ok (.goto (-65), 3) := by decide +kernel
theorem dX1_firstWrongLetter_75 : decode cX1_firstWrongLetter 75 = .ok (.aload_n 0, 1) := by decide +kernel
theorem dX1_firstWrongLetter_76 : decode cX1_firstWrongLetter 76 = .ok (.getfield 39, 3) := by decide +kernel
theorem dX1_firstWrongLetter_79 : decode cX1_firstWrongLetter 79 = .ok (.ifCond .eq 11, 3) := by decide +kernel
theorem dX1_firstWrongLetter_82 : decode cX1_firstWrongLetter 82 = .ok (.iload_n 2, 1) := by decide +kernel
theorem dX1_firstWrongLetter_83 : decode cX1_firstWrongLetter 83 = .ok (.aload_n 1, 1) := by decide +kernel
theorem dX1_firstWrongLetter_84 : decode cX1_firstWrongLetter 84 = .ok (.invokevirtual 245, 3) := by decide +kernel
theorem dX1_firstWrongLetter_87 : decode cX1_firstWrongLetter 87 = .ok (.if_icmp .ge 10, 3) := by decide +kernel
theorem dX1_firstWrongLetter_90 : decode cX1_firstWrongLetter 90 = .ok (.aload_n 0, 1) := by decide +kernel
theorem dX1_firstWrongLetter_91 : decode cX1_firstWrongLetter 91 = .ok (.getfield 39, 3) := by decide +kernel
theorem dX1_firstWrongLetter_94 : decode cX1_firstWrongLetter 94 = .ok (.goto 5, 3) := by decide +kernel
theorem dX1_firstWrongLetter_97 : decode cX1_firstWrongLetter 97 = .ok (.bipush (-9), 2) := by decide +kernel
theorem dX1_firstWrongLetter_99 : decode cX1_firstWrongLetter 99 = .ok (.ireturn, 1) := by decide +kernel
theorem dX1_shapeBehind_0 : decode cX1_shapeBehind 0 = .ok (.iload_n 0, 1) := by decide +kernel
theorem dX1_shapeBehind_1 : decode cX1_shapeBehind 1 = .ok (.tableswitch 99 102 116 #[91, 99, 95, 99, 99, 99, 99, 87, 99, 79, 83, 99, 99, 99, 75], 75) := by decide +kernel
theorem dX1_shapeBehind_76 : decode cX1_shapeBehind 76 = .ok (.ldc_w 263, 3) := by decide +kernel
theorem dX1_shapeBehind_79 : decode cX1_shapeBehind 79 = .ok (.areturn, 1) := by decide +kernel
theorem dX1_shapeBehind_80 : decode cX1_shapeBehind 80 = .ok (.ldc_w 265, 3) := by decide +kernel
theorem dX1_shapeBehind_83 : decode cX1_shapeBehind 83 = .ok (.areturn, 1) := by decide +kernel
theorem dX1_shapeBehind_84 : decode cX1_shapeBehind 84 = .ok (.ldc_w 267, 3) := by decide +kernel
theorem dX1_shapeBehind_87 : decode cX1_shapeBehind 87 = .ok (.areturn, 1) := by decide +kernel
theorem dX1_shapeBehind_88 : decode cX1_shapeBehind 88 = .ok (.ldc_w 267, 3) := by decide +kernel
theorem dX1_shapeBehind_91 : decode cX1_shapeBehind 91 = .ok (.areturn, 1) := by decide +kernel
theorem dX1_shapeBehind_92 : decode cX1_shapeBehind 92 = .ok (.ldc_w 269, 3) := by decide +kernel
theorem dX1_shapeBehind_95 : decode cX1_shapeBehind 95 = .ok (.areturn, 1) := by decide +kernel
theorem dX1_shapeBehind_96 : decode cX1_shapeBehind 96 = .ok (.ldc_w 269, 3) := by decide +kernel
theorem dX1_shapeBehind_99 : decode cX1_shapeBehind 99 = .ok (.areturn, 1) := by decide +kernel
theorem dX1_shapeBehind_100 : decode cX1_shapeBehind 100 = .ok (.ldc 250, 2) := by decide +kernel
theorem dX1_shapeBehind_102 : decode cX1_shapeBehind 102 = .ok (.areturn, 1) := by decide +kernel
theorem dX1_fits_0 : decode cX1_fits 0 = .ok (.iload_n 1, 1) := by decide +kernel
theorem dX1_fits_1 : decode cX1_fits 1 = .ok (.lookupswitch 60 #[(100, 42), (107, 27)], 27) := by decide +kernel
theorem dX1_fits_28 : decode cX1_fits 28 = .ok (.iload_n 0, 1) := by decide +kernel
theorem dX1_fits_29 : decode cX1_fits 29 = .ok (.invokestatic 271, 3) := by decide +kernel
theorem dX1_fits_32 : decode cX1_fits 32 = .ok (.bipush (-9), 2) := by decide +kernel
theorem dX1_fits_34 : decode cX1_fits 34 = .ok (.if_icmp .eq 7, 3) := by decide +kernel
theorem dX1_fits_37 : decode cX1_fits 37 = .ok (.iconst 1, 1) := by decide +kernel
theorem dX1_fits_38 : decode cX1_fits 38 = .ok (.goto 4, 3) := by decide +kernel
theorem dX1_fits_41 : decode cX1_fits 41 = .ok (.iconst 0, 1) := by decide +kernel
theorem dX1_fits_42 : decode cX1_fits 42 = .ok (.ireturn, 1) := by decide +kernel
theorem dX1_fits_43 : decode cX1_fits 43 = .ok (.iload_n 0, 1) := by decide +kernel
theorem dX1_fits_44 : decode cX1_fits 44 = .ok (.bipush 48, 2) := by decide +kernel
theorem dX1_fits_46 : decode cX1_fits 46 = .ok (.if_icmp .lt 13, 3) := by decide +kernel
theorem dX1_fits_49 : decode cX1_fits 49 = .ok (.iload_n 0, 1) := by decide +kernel
theorem dX1_fits_50 : decode cX1_fits 50 = .ok (.bipush 57, 2) := by decide +kernel
theorem dX1_fits_52 : decode cX1_fits 52 = .ok (.if_icmp .gt 7, 3) := by decide +kernel
theorem dX1_fits_55 : decode cX1_fits 55 = .ok (.iconst 1, 1) := by decide +kernel
theorem dX1_fits_56 : decode cX1_fits 56 = .ok (.goto 4, 3) := by decide +kernel
theorem dX1_fits_59 : decode cX1_fits 59 = .ok (.iconst 0, 1) := by decide +kernel
theorem dX1_fits_60 : decode cX1_fits 60 = .ok (.ireturn, 1) := by decide +kernel
theorem dX1_fits_61 : decode cX1_fits 61 = .ok (.iload_n 0, 1) := by decide +kernel
theorem dX1_fits_62 : decode cX1_fits 62 = .ok (.iload_n 1, 1) := by decide +kernel
theorem dX1_fits_63 : decode cX1_fits 63 = .ok (.if_icmp .ne 7, 3) := by decide +kernel
theorem dX1_fits_66 : decode cX1_fits 66 = .ok (.iconst 1, 1) := by decide +kernel
theorem dX1_fits_67 : decode cX1_fits 67 = .ok (.goto 4, 3) := by decide +kernel
theorem dX1_fits_70 : decode cX1_fits 70 = .ok (.iconst 0, 1) := by decide +kernel
theorem dX1_fits_71 : decode cX1_fits 71 = .ok (.ireturn, 1) := by decide +kernel
theorem dX1_kindOf_0 : decode cX1_kindOf 0 = .ok (.iload_n 0, 1) := by decide +kernel
theorem dX1_kindOf_1 : decode cX1_kindOf 1 = .ok (.lookupswitch 71 #[(98, 69), (99, 65), (103, 61), (112, 63), (116, 59), (119, 67)], 59) := by decide +kernel
theorem dX1_kindOf_60 : decode cX1_kindOf 60 = .ok (.iconst 0, 1) := by decide +kernel
theorem dX1_kindOf_61 : decode cX1_kindOf 61 = .ok (.ireturn, 1) := by decide +kernel
theorem dX1_kindOf_62 : decode cX1_kindOf 62 = .ok (.iconst 1, 1) := by decide +kernel
theorem dX1_kindOf_63 : decode cX1_kindOf 63 = .ok (.ireturn, 1) := by decide +kernel
theorem dX1_kindOf_64 : decode cX1_kindOf 64 = .ok (.iconst 2, 1) := by decide +kernel
theorem dX1_kindOf_65 : decode cX1_kindOf 65 = .ok (.ireturn, 1) := by decide +kernel
theorem dX1_kindOf_66 : decode cX1_kindOf 66 = .ok (.iconst 3, 1) := by decide +kernel
theorem dX1_kindOf_67 : decode cX1_kindOf 67 = .ok (.ireturn, 1) := by decide +kernel
theorem dX1_kindOf_68 : decode cX1_kindOf 68 = .ok (.iconst 4, 1) := by decide +kernel
theorem dX1_kindOf_69 : decode cX1_kindOf 69 = .ok (.ireturn, 1) := by decide +kernel
theorem dX1_kindOf_70 : decode cX1_kindOf 70 = .ok (.iconst 5, 1) := by decide +kernel
theorem dX1_kindOf_71 : decode cX1_kindOf 71 = .ok (.ireturn, 1) := by decide +kernel
theorem dX1_kindOf_72 : decode cX1_kindOf 72 = .ok (.bipush (-9), 2) := by decide +kernel
theorem dX1_kindOf_74 : decode cX1_kindOf 74 = .ok (.ireturn, 1) := by decide +kernel
theorem dX1_letterAt_0 : decode cX1_letterAt 0 = .ok (.iload_n 1, 1) := by decide +kernel
theorem dX1_letterAt_1 : decode cX1_letterAt 1 = .ok (.ifCond .lt 20, 3) := by decide +kernel
theorem dX1_letterAt_4 : decode cX1_letterAt 4 = .ok (.iload_n 1, 1) := by decide +kernel
theorem dX1_letterAt_5 : decode cX1_letterAt 5 = .ok (.aload_n 0, 1) := by decide +kernel
theorem dX1_letterAt_6 : decode cX1_letterAt 6 = .ok (.getfield 39, 3) := by decide +kernel
theorem dX1_letterAt_9 : decode cX1_letterAt 9 = .ok (.if_icmp .ge 12, 3) := by decide +kernel
theorem dX1_letterAt_12 : decode cX1_letterAt 12 = .ok (.aload_n 0, 1) := by decide +kernel
theorem dX1_letterAt_13 : decode cX1_letterAt 13 = .ok (.getfield 22, 3) := by decide +kernel
theorem dX1_letterAt_16 : decode cX1_letterAt 16 = .ok (.iload_n 1, 1) := by decide +kernel
theorem dX1_letterAt_17 : decode cX1_letterAt 17 = .ok (.iaload, 1) := by decide +kernel
theorem dX1_letterAt_18 : decode cX1_letterAt 18 = .ok (.goto 4, 3) := by decide +kernel
theorem dX1_letterAt_21 : decode cX1_letterAt 21 = .ok (.iconst 0, 1) := by decide +kernel
theorem dX1_letterAt_22 : decode cX1_letterAt 22 = .ok (.ireturn, 1) := by decide +kernel
theorem dX1_digitAt_0 : decode cX1_digitAt 0 = .ok (.aload_n 0, 1) := by decide +kernel
theorem dX1_digitAt_1 : decode cX1_digitAt 1 = .ok (.iload_n 1, 1) := by decide +kernel
theorem dX1_digitAt_2 : decode cX1_digitAt 2 = .ok (.invokevirtual 274, 3) := by decide +kernel
theorem dX1_digitAt_5 : decode cX1_digitAt 5 = .ok (.bipush 48, 2) := by decide +kernel
theorem dX1_digitAt_7 : decode cX1_digitAt 7 = .ok (.isub, 1) := by decide +kernel
theorem dX1_digitAt_8 : decode cX1_digitAt 8 = .ok (.ireturn, 1) := by decide +kernel
theorem dX1_comesInMind_0 : decode cX1_comesInMind 0 = .ok (.aload_n 0, 1) := by decide +kernel
theorem dX1_comesInMind_1 : decode cX1_comesInMind 1 = .ok (.iload_n 1, 1) := by decide +kernel
theorem dX1_comesInMind_2 : decode cX1_comesInMind 2 = .ok (.iconst 1, 1) := by decide +kernel
theorem dX1_comesInMind_3 : decode cX1_comesInMind 3 = .ok (.iadd, 1) := by decide +kernel
theorem dX1_comesInMind_4 : decode cX1_comesInMind 4 = .ok (.invokevirtual 274, 3) := by decide +kernel
theorem dX1_comesInMind_7 : decode cX1_comesInMind 7 = .ok (.invokestatic 271, 3) := by decide +kernel
theorem dX1_comesInMind_10 : decode cX1_comesInMind 10 = .ok (.istore_n 2, 1) := by decide +kernel
theorem dX1_comesInMind_11 : decode cX1_comesInMind 11 = .ok (.aload_n 0, 1) := by decide +kernel
theorem dX1_comesInMind_12 : decode cX1_comesInMind 12 = .ok (.iload_n 1, 1) := by decide +kernel
theorem dX1_comesInMind_13 : decode cX1_comesInMind 13 = .ok (.iconst 1, 1) := by decide +kernel
theorem dX1_comesInMind_14 : decode cX1_comesInMind 14 = .ok (.iadd, 1) := by decide +kernel
theorem dX1_comesInMind_15 : decode cX1_comesInMind 15 = .ok (.invokevirtual 277, 3) := by decide +kernel
theorem dX1_comesInMind_18 : decode cX1_comesInMind 18 = .ok (.istore_n 3, 1) := by decide +kernel
theorem dX1_comesInMind_19 : decode cX1_comesInMind 19 = .ok (.aload_n 0, 1) := by decide +kernel
theorem dX1_comesInMind_20 : decode cX1_comesInMind 20 = .ok (.iload_n 1, 1) := by decide +kernel
theorem dX1_comesInMind_21 : decode cX1_comesInMind 21 = .ok (.iconst 2, 1) := by decide +kernel
theorem dX1_comesInMind_22 : decode cX1_comesInMind 22 = .ok (.iadd, 1) := by decide +kernel
theorem dX1_comesInMind_23 : decode cX1_comesInMind 23 = .ok (.invokevirtual 277, 3) := by decide +kernel
theorem dX1_comesInMind_26 : decode cX1_comesInMind 26 = .ok (.istore 4, 2) := by decide +kernel
theorem dX1_comesInMind_28 : decode cX1_comesInMind 28 = .ok (.aload_n 0, 1) := by decide +kernel
theorem dX1_comesInMind_29 : decode cX1_comesInMind 29 = .ok (.iload_n 1, 1) := by decide +kernel
theorem dX1_comesInMind_30 : decode cX1_comesInMind 30 = .ok (.invokevirtual 274, 3) := by decide +kernel
theorem dX1_comesInMind_33 : decode cX1_comesInMind 33 = .ok (.tableswitch 169 102 116 #[157, 169, 163, 169, 169, 169, 169, 169, 169, 106, 149, 169, 169, 169, 75], 75) := by decide +kernel
theorem dX1_comesInMind_108 : decode cX1_comesInMind 108 = .ok (.aload_n 0, 1) := by decide +kernel
theorem dX1_comesInMind_109 : decode cX1_comesInMind 109 = .ok (.getfield 16, 3) := by decide +kernel
theorem dX1_comesInMind_112 : decode cX1_comesInMind 112 = .ok (.getfield 98, 3) := by decide +kernel
theorem dX1_comesInMind_115 : decode cX1_comesInMind 115 = .ok (.ifCond .eq 22, 3) := by decide +kernel
theorem dX1_comesInMind_118 : decode cX1_comesInMind 118 = .ok (.aload_n 0, 1) := by decide +kernel
theorem dX1_comesInMind_119 : decode cX1_comesInMind 119 = .ok (.getfield 16, 3) := by decide +kernel
theorem dX1_comesInMind_122 : decode cX1_comesInMind 122 = .ok (.iload_n 2, 1) := by decide +kernel
theorem dX1_comesInMind_123 : decode cX1_comesInMind 123 = .ok (.iload 4, 2) := by decide +kernel
theorem dX1_comesInMind_125 : decode cX1_comesInMind 125 = .ok (.bipush (-9), 2) := by decide +kernel
theorem dX1_comesInMind_127 : decode cX1_comesInMind 127 = .ok (.invokevirtual 280, 3) := by decide +kernel
theorem dX1_comesInMind_130 : decode cX1_comesInMind 130 = .ok (.ifCond .eq 7, 3) := by decide +kernel
theorem dX1_comesInMind_133 : decode cX1_comesInMind 133 = .ok (.iconst 1, 1) := by decide +kernel
theorem dX1_comesInMind_134 : decode cX1_comesInMind 134 = .ok (.goto 4, 3) := by decide +kernel
theorem dX1_comesInMind_137 : decode cX1_comesInMind 137 = .ok (.iconst 0, 1) := by decide +kernel
theorem dX1_comesInMind_138 : decode cX1_comesInMind 138 = .ok (.ireturn, 1) := by decide +kernel
theorem dX1_comesInMind_139 : decode cX1_comesInMind 139 = .ok (.aload_n 0, 1) := by decide +kernel
theorem dX1_comesInMind_140 : decode cX1_comesInMind 140 = .ok (.getfield 16, 3) := by decide +kernel
theorem dX1_comesInMind_143 : decode cX1_comesInMind 143 = .ok (.aload_n 0, 1) := by decide +kernel
theorem dX1_comesInMind_144 : decode cX1_comesInMind 144 = .ok (.iload_n 1, 1) := by decide +kernel
theorem dX1_comesInMind_145 : decode cX1_comesInMind 145 = .ok (.iconst 3, 1) := by decide +kernel
theorem dX1_comesInMind_146 : decode cX1_comesInMind 146 = .ok (.iadd, 1) := by decide +kernel
theorem dX1_comesInMind_147 : decode cX1_comesInMind 147 = .ok (.invokevirtual 277, 3) := by decide +kernel
theorem dX1_comesInMind_150 : decode cX1_comesInMind 150 = .ok (.invokevirtual 166, 3) := by decide +kernel
theorem dX1_comesInMind_153 : decode cX1_comesInMind 153 = .ok (.ifCond .eq 27, 3) := by decide +kernel
theorem dX1_comesInMind_156 : decode cX1_comesInMind 156 = .ok (.aload_n 0, 1) := by decide +kernel
theorem dX1_comesInMind_157 : decode cX1_comesInMind 157 = .ok (.getfield 16, 3) := by decide +kernel
theorem dX1_comesInMind_160 : decode cX1_comesInMind 160 = .ok (.iload_n 2, 1) := by decide +kernel
theorem dX1_comesInMind_161 : decode cX1_comesInMind 161 = .ok (.iload 4, 2) := by decide +kernel
theorem dX1_comesInMind_163 : decode cX1_comesInMind 163 = .ok (.aload_n 0, 1) := by decide +kernel
theorem dX1_comesInMind_164 : decode cX1_comesInMind 164 = .ok (.iload_n 1, 1) := by decide +kernel
theorem dX1_comesInMind_165 : decode cX1_comesInMind 165 = .ok (.iconst 3, 1) := by decide +kernel
theorem dX1_comesInMind_166 : decode cX1_comesInMind 166 = .ok (.iadd, 1) := by decide +kernel
theorem dX1_comesInMind_167 : decode cX1_comesInMind 167 = .ok (.invokevirtual 277, 3) := by decide +kernel
theorem dX1_comesInMind_170 : decode cX1_comesInMind 170 = .ok (.invokevirtual 280, 3) := by decide +kernel
theorem dX1_comesInMind_173 : decode cX1_comesInMind 173 = .ok (.ifCond .eq 7, 3) := by decide +kernel
theorem dX1_comesInMind_176 : decode cX1_comesInMind 176 = .ok (.iconst 1, 1) := by decide +kernel
theorem dX1_comesInMind_177 : decode cX1_comesInMind 177 = .ok (.goto 4, 3) := by decide +kernel
theorem dX1_comesInMind_180 : decode cX1_comesInMind 180 = .ok (.iconst 0, 1) := by decide +kernel
theorem dX1_comesInMind_181 : decode cX1_comesInMind 181 = .ok (.ireturn, 1) := by decide +kernel
theorem dX1_comesInMind_182 : decode cX1_comesInMind 182 = .ok (.aload_n 0, 1) := by decide +kernel
theorem dX1_comesInMind_183 : decode cX1_comesInMind 183 = .ok (.iload_n 3, 1) := by decide +kernel
theorem dX1_comesInMind_184 : decode cX1_comesInMind 184 = .ok (.iload 4, 2) := by decide +kernel
theorem dX1_comesInMind_186 : decode cX1_comesInMind 186 = .ok (.invokevirtual 283, 3) := by decide +kernel
theorem dX1_comesInMind_189 : decode cX1_comesInMind 189 = .ok (.ireturn, 1) := by decide +kernel
theorem dX1_comesInMind_190 : decode cX1_comesInMind 190 = .ok (.aload_n 0, 1) := by decide +kernel
theorem dX1_comesInMind_191 : decode cX1_comesInMind 191 = .ok (.iload_n 3, 1) := by decide +kernel
theorem dX1_comesInMind_192 : decode cX1_comesInMind 192 = .ok (.invokevirtual 287, 3) := by decide +kernel
theorem dX1_comesInMind_195 : decode cX1_comesInMind 195 = .ok (.ireturn, 1) := by decide +kernel
theorem dX1_comesInMind_196 : decode cX1_comesInMind 196 = .ok (.aload_n 0, 1) := by decide +kernel
theorem dX1_comesInMind_197 : decode cX1_comesInMind 197 = .ok (.iload_n 3, 1) := by decide +kernel
theorem dX1_comesInMind_198 : decode cX1_comesInMind 198 = .ok (.invokevirtual 290, 3) := by decide +kernel
theorem dX1_comesInMind_201 : decode cX1_comesInMind 201 = .ok (.ireturn, 1) := by decide +kernel
theorem dX1_comesInMind_202 : decode cX1_comesInMind 202 = .ok (.aload_n 0, 1) := by decide +kernel
theorem dX1_comesInMind_203 : decode cX1_comesInMind 203 = .ok (.bipush 10, 2) := by decide +kernel
theorem dX1_comesInMind_205 : decode cX1_comesInMind 205 = .ok (.iload_n 3, 1) := by decide +kernel
theorem dX1_comesInMind_206 : decode cX1_comesInMind 206 = .ok (.imul, 1) := by decide +kernel
theorem dX1_comesInMind_207 : decode cX1_comesInMind 207 = .ok (.iload 4, 2) := by decide +kernel
theorem dX1_comesInMind_209 : decode cX1_comesInMind 209 = .ok (.iadd, 1) := by decide +kernel
theorem dX1_comesInMind_210 : decode cX1_comesInMind 210 = .ok (.invokevirtual 293, 3) := by decide +kernel
theorem dX1_comesInMind_213 : decode cX1_comesInMind 213 = .ok (.ireturn, 1) := by decide +kernel
theorem dX1_pullsInMind_0 : decode cX1_pullsInMind 0 = .ok (.aload_n 0, 1) := by decide +kernel
theorem dX1_pullsInMind_1 : decode cX1_pullsInMind 1 = .ok (.getfield 16, 3) := by decide +kernel
theorem dX1_pullsInMind_4 : decode cX1_pullsInMind 4 = .ok (.iload_n 1, 1) := by decide +kernel
theorem dX1_pullsInMind_5 : decode cX1_pullsInMind 5 = .ok (.invokevirtual 166, 3) := by decide +kernel
theorem dX1_pullsInMind_8 : decode cX1_pullsInMind 8 = .ok (.ifCond .ne 5, 3) := by decide +kernel
theorem dX1_pullsInMind_11 : decode cX1_pullsInMind 11 = .ok (.iconst 0, 1) := by decide +kernel
theorem dX1_pullsInMind_12 : decode cX1_pullsInMind 12 = .ok (.ireturn, 1) := by decide +kernel
theorem dX1_pullsInMind_13 : decode cX1_pullsInMind 13 = .ok (.aload_n 0, 1) := by decide +kernel
theorem dX1_pullsInMind_14 : decode cX1_pullsInMind 14 = .ok (.getfield 16, 3) := by decide +kernel
theorem dX1_pullsInMind_17 : decode cX1_pullsInMind 17 = .ok (.iload_n 1, 1) := by decide +kernel
theorem dX1_pullsInMind_18 : decode cX1_pullsInMind 18 = .ok (.iload_n 2, 1) := by decide +kernel
theorem dX1_pullsInMind_19 : decode cX1_pullsInMind 19 = .ok (.invokevirtual 90, 3) := by decide +kernel
theorem dX1_pullsInMind_22 : decode cX1_pullsInMind 22 = .ok (.pop, 1) := by decide +kernel
theorem dX1_pullsInMind_23 : decode cX1_pullsInMind 23 = .ok (.iconst 1, 1) := by decide +kernel
theorem dX1_pullsInMind_24 : decode cX1_pullsInMind 24 = .ok (.ireturn, 1) := by decide +kernel
theorem dX1_floorInMind_0 : decode cX1_floorInMind 0 = .ok (.aload_n 0, 1) := by decide +kernel
theorem dX1_floorInMind_1 : decode cX1_floorInMind 1 = .ok (.getfield 16, 3) := by decide +kernel
theorem dX1_floorInMind_4 : decode cX1_floorInMind 4 = .ok (.getfield 98, 3) := by decide +kernel
theorem dX1_floorInMind_7 : decode cX1_floorInMind 7 = .ok (.ifCond .ne 5, 3) := by decide +kernel
theorem dX1_floorInMind_10 : decode cX1_floorInMind 10 = .ok (.iconst 0, 1) := by decide +kernel
theorem dX1_floorInMind_11 : decode cX1_floorInMind 11 = .ok (.ireturn, 1) := by decide +kernel
theorem dX1_floorInMind_12 : decode cX1_floorInMind 12 = .ok (.aload_n 0, 1) := by decide +kernel
theorem dX1_floorInMind_13 : decode cX1_floorInMind 13 = .ok (.getfield 16, 3) := by decide +kernel
theorem dX1_floorInMind_16 : decode cX1_floorInMind 16 = .ok (.iload_n 1, 1) := by decide +kernel
theorem dX1_floorInMind_17 : decode cX1_floorInMind 17 = .ok (.invokevirtual 102, 3) := by decide +kernel
theorem dX1_floorInMind_20 : decode cX1_floorInMind 20 = .ok (.pop, 1) := by decide +kernel
theorem dX1_floorInMind_21 : decode cX1_floorInMind 21 = .ok (.iconst 1, 1) := by decide +kernel
theorem dX1_floorInMind_22 : decode cX1_floorInMind 22 = .ok (.ireturn, 1) := by decide +kernel
theorem dX1_setsUpInMind_0 : decode cX1_setsUpInMind 0 = .ok (.aload_n 0, 1) := by decide +kernel
theorem dX1_setsUpInMind_1 : decode cX1_setsUpInMind 1 = .ok (.getfield 16, 3) := by decide +kernel
theorem dX1_setsUpInMind_4 : decode cX1_setsUpInMind 4 = .ok (.iload_n 1, 1) := by decide +kernel
theorem dX1_setsUpInMind_5 : decode cX1_setsUpInMind 5 = .ok (.invokevirtual 166, 3) := by decide +kernel
theorem dX1_setsUpInMind_8 : decode cX1_setsUpInMind 8 = .ok (.ifCond .ne 16, 3) := by decide +kernel
theorem dX1_setsUpInMind_11 : decode cX1_setsUpInMind 11 = .ok (.aload_n 0, 1) := by decide +kernel
theorem dX1_setsUpInMind_12 : decode cX1_setsUpInMind 12 = .ok (.getfield 16, 3) := by decide +kernel
theorem dX1_setsUpInMind_15 : decode cX1_setsUpInMind 15 = .ok (.iload_n 1, 1) := by decide +kernel
theorem dX1_setsUpInMind_16 : decode cX1_setsUpInMind 16 = .ok (.invokevirtual 108, 3) := by decide +kernel
theorem dX1_setsUpInMind_19 : decode cX1_setsUpInMind 19 = .ok (.ifCond .ne 5, 3) := by decide +kernel
theorem dX1_setsUpInMind_22 : decode cX1_setsUpInMind 22 = .ok (.iconst 0, 1) := by decide +kernel
theorem dX1_setsUpInMind_23 : decode cX1_setsUpInMind 23 = .ok (.ireturn, 1) := by decide +kernel
theorem dX1_setsUpInMind_24 : decode cX1_setsUpInMind 24 = .ok (.aload_n 0, 1) := by decide +kernel
theorem dX1_setsUpInMind_25 : decode cX1_setsUpInMind 25 = .ok (.getfield 16, 3) := by decide +kernel
theorem dX1_setsUpInMind_28 : decode cX1_setsUpInMind 28 = .ok (.iload_n 1, 1) := by decide +kernel
theorem dX1_setsUpInMind_29 : decode cX1_setsUpInMind 29 = .ok (.invokevirtual 111, 3) := by decide +kernel
theorem dX1_setsUpInMind_32 : decode cX1_setsUpInMind 32 = .ok (.iconst 1, 1) := by decide +kernel
theorem dX1_setsUpInMind_33 : decode cX1_setsUpInMind 33 = .ok (.ireturn, 1) := by decide +kernel
theorem dX1_minutesInMind_0 : decode cX1_minutesInMind 0 = .ok (.iload_n 1, 1) := by decide +kernel
theorem dX1_minutesInMind_1 : decode cX1_minutesInMind 1 = .ok (.iconst 1, 1) := by decide +kernel
theorem dX1_minutesInMind_2 : decode cX1_minutesInMind 2 = .ok (.if_icmp .lt 20, 3) := by decide +kernel
theorem dX1_minutesInMind_5 : decode cX1_minutesInMind 5 = .ok (.iload_n 1, 1) := by decide +kernel
theorem dX1_minutesInMind_6 : decode cX1_minutesInMind 6 = .ok (.bipush 60, 2) := by decide +kernel
theorem dX1_minutesInMind_8 : decode cX1_minutesInMind 8 = .ok (.if_icmp .gt 14, 3) := by decide +kernel
theorem dX1_minutesInMind_11 : decode cX1_minutesInMind 11 = .ok (.aload_n 0, 1) := by decide +kernel
theorem dX1_minutesInMind_12 : decode cX1_minutesInMind 12 = .ok (.getfield 16, 3) := by decide +kernel
theorem dX1_minutesInMind_15 : decode cX1_minutesInMind 15 = .ok (.iload_n 1, 1) := by decide +kernel
theorem dX1_minutesInMind_16 : decode cX1_minutesInMind 16 = .ok (.invokevirtual 122, 3) := by decide +kernel
theorem dX1_minutesInMind_19 : decode cX1_minutesInMind 19 = .ok (.ifCond .ne 5, 3) := by decide +kernel
theorem dX1_minutesInMind_22 : decode cX1_minutesInMind 22 = .ok (.iconst 0, 1) := by decide +kernel
theorem dX1_minutesInMind_23 : decode cX1_minutesInMind 23 = .ok (.ireturn, 1) := by decide +kernel
theorem dX1_minutesInMind_24 : decode cX1_minutesInMind 24 = .ok (.aload_n 0, 1) := by decide +kernel
theorem dX1_minutesInMind_25 : decode cX1_minutesInMind 25 = .ok (.getfield 16, 3) := by decide +kernel
theorem dX1_minutesInMind_28 : decode cX1_minutesInMind 28 = .ok (.iload_n 1, 1) := by decide +kernel
theorem dX1_minutesInMind_29 : decode cX1_minutesInMind 29 = .ok (.invokevirtual 125, 3) := by decide +kernel
theorem dX1_minutesInMind_32 : decode cX1_minutesInMind 32 = .ok (.iconst 1, 1) := by decide +kernel
theorem dX1_minutesInMind_33 : decode cX1_minutesInMind 33 = .ok (.ireturn, 1) := by decide +kernel
theorem dX1_findFallTimes_0 : decode cX1_findFallTimes 0 = .ok (.iconst 0, 1) := by decide +kernel
theorem dX1_findFallTimes_1 : decode cX1_findFallTimes 1 = .ok (.istore_n 1, 1) := by decide +kernel
theorem dX1_findFallTimes_2 : decode cX1_findFallTimes 2 = .ok (.iload_n 1, 1) := by decide +kernel
theorem dX1_findFallTimes_3 : decode cX1_findFallTimes 3 = .ok (.bipush 10, 2) := by decide +kernel
theorem dX1_findFallTimes_5 : decode cX1_findFallTimes 5 = .ok (.if_icmp .ge 17, 3) := by decide +kernel
theorem dX1_findFallTimes_8 : decode cX1_findFallTimes 8 = .ok (.aload_n 0, 1) := by decide +kernel
theorem dX1_findFallTimes_9 : decode cX1_findFallTimes 9 = .ok (.getfield 32, 3) := by decide +kernel
theorem dX1_findFallTimes_12 : decode cX1_findFallTimes 12 = .ok (.iload_n 1, 1) := by decide +kernel
theorem dX1_findFallTimes_13 : decode cX1_findFallTimes 13 = .ok (.bipush (-9), 2) := by decide +kernel
theorem dX1_findFallTimes_15 : decode cX1_findFallTimes 15 = .ok (.iastore, 1) := by decide +kernel
theorem dX1_findFallTimes_16 : decode cX1_findFallTimes 16 = .ok (.iinc 1 1, 3) := by decide +kernel
theorem dX1_findFallTimes_19 : decode cX1_findFallTimes 19 = .ok (.goto (-17), 3) := by decide +kernel
theorem dX1_findFallTimes_22 : decode cX1_findFallTimes 22 = .ok (.iconst 0, 1) := by decide +kernel
theorem dX1_findFallTimes_23 : decode cX1_findFallTimes 23 = .ok (.istore_n 1, 1) := by decide +kernel
theorem dX1_findFallTimes_24 : decode cX1_findFallTimes 24 = .ok (.iload_n 1, 1) := by decide +kernel
theorem dX1_findFallTimes_25 : decode cX1_findFallTimes 25 = .ok (.bipush 99, 2) := by decide +kernel
theorem dX1_findFallTimes_27 : decode cX1_findFallTimes 27 = .ok (.if_icmp .gt 69, 3) := by decide +kernel
theorem dX1_findFallTimes_30 : decode cX1_findFallTimes 30 = .ok (.iconst 0, 1) := by decide +kernel
theorem dX1_findFallTimes_31 : decode cX1_findFallTimes 31 = .ok (.istore_n 2, 1) := by decide +kernel
theorem dX1_findFallTimes_32 : decode cX1_findFallTimes 32 = .ok (.iload_n 2, 1) := by decide +kernel
theorem dX1_findFallTimes_33 : decode cX1_findFallTimes 33 = .ok (.aload_n 0, 1) := by decide +kernel
theorem dX1_findFallTimes_34 : decode cX1_findFallTimes 34 = .ok (.getfield 16, 3) := by decide +kernel
theorem dX1_findFallTimes_37 : decode cX1_findFallTimes 37 = .ok (.getfield 163, 3) := by decide +kernel
theorem dX1_findFallTimes_40 : decode cX1_findFallTimes 40 = .ok (.if_icmp .ge 38, 3) := by decide +kernel
theorem dX1_findFallTimes_43 : decode cX1_findFallTimes 43 = .ok (.aload_n 0, 1) := by decide +kernel
theorem dX1_findFallTimes_44 : decode cX1_findFallTimes 44 = .ok (.getfield 32, 3) := by decide +kernel
theorem dX1_findFallTimes_47 : decode cX1_findFallTimes 47 = .ok (.iload_n 2, 1) := by decide +kernel
theorem dX1_findFallTimes_48 : decode cX1_findFallTimes 48 = .ok (.iaload, 1) := by decide +kernel
theorem dX1_findFallTimes_49 : decode cX1_findFallTimes 49 = .ok (.bipush (-9), 2) := by decide +kernel
theorem dX1_findFallTimes_51 : decode cX1_findFallTimes 51 = .ok (.if_icmp .ne 21, 3) := by decide +kernel
theorem dX1_findFallTimes_54 : decode cX1_findFallTimes 54 = .ok (.aload_n 0, 1) := by decide +kernel
theorem dX1_findFallTimes_55 : decode cX1_findFallTimes 55 = .ok (.getfield 16, 3) := by decide +kernel
theorem dX1_findFallTimes_58 : decode cX1_findFallTimes 58 = .ok (.iload_n 2, 1) := by decide +kernel
theorem dX1_findFallTimes_59 : decode cX1_findFallTimes 59 = .ok (.invokevirtual 108, 3) := by decide +kernel
theorem dX1_findFallTimes_62 : decode cX1_findFallTimes 62 = .ok (.ifCond .eq 10, 3) := by decide +kernel
theorem dX1_findFallTimes_65 : decode cX1_findFallTimes 65 = .ok (.aload_n 0, 1) := by decide +kernel
theorem dX1_findFallTimes_66 : decode cX1_findFallTimes 66 = .ok (.getfield 32, 3) := by decide +kernel
theorem dX1_findFallTimes_69 : decode cX1_findFallTimes 69 = .ok (.iload_n 2, 1) := by decide +kernel
theorem dX1_findFallTimes_70 : decode cX1_findFallTimes 70 = .ok (.iload_n 1, 1) := by decide +kernel
theorem dX1_findFallTimes_71 : decode cX1_findFallTimes 71 = .ok (.iastore, 1) := by decide +kernel
theorem dX1_findFallTimes_72 : decode cX1_findFallTimes 72 = .ok (.iinc 2 1, 3) := by decide +kernel
theorem dX1_findFallTimes_75 : decode cX1_findFallTimes 75 = .ok (.goto (-43), 3) := by decide +kernel
theorem dX1_findFallTimes_78 : decode cX1_findFallTimes 78 = .ok (.aload_n 0, 1) := by decide +kernel
theorem dX1_findFallTimes_79 : decode cX1_findFallTimes 79 = .ok (.getfield 16, 3) := by decide +kernel
theorem dX1_findFallTimes_82 : decode cX1_findFallTimes 82 = .ok (.iconst 0, 1) := by decide +kernel
theorem dX1_findFallTimes_83 : decode cX1_findFallTimes 83 = .ok (.invokevirtual 296, 3) := by decide +kernel
theorem dX1_findFallTimes_86 : decode cX1_findFallTimes 86 = .ok (.ifCond .ne 4, 3) := by decide +kernel
theorem dX1_findFallTimes_89 : decode cX1_findFallTimes 89 = .ok (.return_, 1) := by decide +kernel
theorem dX1_findFallTimes_90 : decode cX1_findFallTimes 90 = .ok (.iinc 1 1, 3) := by decide +kernel
theorem dX1_findFallTimes_93 : decode cX1_findFallTimes 93 = .ok (.goto (-69), 3) := by decide +kernel
theorem dX1_findFallTimes_96 : decode cX1_findFallTimes 96 = .ok (.return_, 1) := by decide +kernel
theorem dX1_firstFaller_0 : decode cX1_firstFaller 0 = .ok (.aload_n 0, 1) := by decide +kernel
theorem dX1_firstFaller_1 : decode cX1_firstFaller 1 = .ok (.getfield 16, 3) := by decide +kernel
theorem dX1_firstFaller_4 : decode cX1_firstFaller 4 = .ok (.aload_n 0, 1) := by decide +kernel
theorem dX1_firstFaller_5 : decode cX1_firstFaller 5 = .ok (.getfield 10, 3) := by decide +kernel
theorem dX1_firstFaller_8 : decode cX1_firstFaller 8 = .ok (.invokevirtual 131, 3) := by decide +kernel
theorem dX1_firstFaller_11 : decode cX1_firstFaller 11 = .ok (.aload_n 0, 1) := by decide +kernel
theorem dX1_firstFaller_12 : decode cX1_firstFaller 12 = .ok (.invokevirtual 135, 3) := by decide +kernel
theorem dX1_firstFaller_15 : decode cX1_firstFaller 15 = .ok (.bipush (-9), 2) := by decide +kernel
theorem dX1_firstFaller_17 : decode cX1_firstFaller 17 = .ok (.istore_n 1, 1) := by decide +kernel
theorem dX1_firstFaller_18 : decode cX1_firstFaller 18 = .ok (.bipush 100, 2) := by decide +kernel
theorem dX1_firstFaller_20 : decode cX1_firstFaller 20 = .ok (.istore_n 2, 1) := by decide +kernel
theorem dX1_firstFaller_21 : decode cX1_firstFaller 21 = .ok (.iconst 0, 1) := by decide +kernel
theorem dX1_firstFaller_22 : decode cX1_firstFaller 22 = .ok (.istore_n 3, 1) := by decide +kernel
theorem dX1_firstFaller_23 : decode cX1_firstFaller 23 = .ok (.iload_n 3, 1) := by decide +kernel
theorem dX1_firstFaller_24 : decode cX1_firstFaller 24 = .ok (.aload_n 0, 1) := by decide +kernel
theorem dX1_firstFaller_25 : decode cX1_firstFaller 25 = .ok (.getfield 10, 3) := by decide +kernel
theorem dX1_firstFaller_28 : decode cX1_firstFaller 28 = .ok (.getfield 163, 3) := by decide +kernel
theorem dX1_firstFaller_31 : decode cX1_firstFaller 31 = .ok (.if_icmp .ge 62, 3) := by decide +kernel
theorem dX1_firstFaller_34 : decode cX1_firstFaller 34 = .ok (.aload_n 0, 1) := by decide +kernel
theorem dX1_firstFaller_35 : decode cX1_firstFaller 35 = .ok (.getfield 10, 3) := by decide +kernel
theorem dX1_firstFaller_38 : decode cX1_firstFaller 38 = .ok (.iload_n 3, 1) := by decide +kernel
theorem dX1_firstFaller_39 : decode cX1_firstFaller 39 = .ok (.invokevirtual 166, 3) := by decide +kernel
theorem dX1_firstFaller_42 : decode cX1_firstFaller 42 = .ok (.ifCond .eq 18, 3) := by decide +kernel
theorem dX1_firstFaller_45 : decode cX1_firstFaller 45 = .ok (.aload_n 0, 1) := by decide +kernel
theorem dX1_firstFaller_46 : decode cX1_firstFaller 46 = .ok (.getfield 32, 3) := by decide +kernel
theorem dX1_firstFaller_49 : decode cX1_firstFaller 49 = .ok (.iload_n 3, 1) := by decide +kernel
theorem dX1_firstFaller_50 : decode cX1_firstFaller 50 = .ok (.iaload, 1) := by decide +kernel
theorem dX1_firstFaller_51 : decode cX1_firstFaller 51 = .ok (.bipush (-9), 2) := by decide +kernel
theorem dX1_firstFaller_53 : decode cX1_firstFaller 53 = .ok (.if_icmp .eq 7, 3) := by decide +kernel
theorem dX1_firstFaller_56 : decode cX1_firstFaller 56 = .ok (.iconst 1, 1) := by decide +kernel
theorem dX1_firstFaller_57 : decode cX1_firstFaller 57 = .ok (.goto 4, 3) := by decide +kernel
theorem dX1_firstFaller_60 : decode cX1_firstFaller 60 = .ok (.iconst 0, 1) := by decide +kernel
theorem dX1_firstFaller_61 : decode cX1_firstFaller 61 = .ok (.istore 4, 2) := by decide +kernel
theorem dX1_firstFaller_63 : decode cX1_firstFaller 63 = .ok (.iload 4, 2) := by decide +kernel
theorem dX1_firstFaller_65 : decode cX1_firstFaller 65 = .ok (.ifCond .eq 22, 3) := by decide +kernel
theorem dX1_firstFaller_68 : decode cX1_firstFaller 68 = .ok (.aload_n 0, 1) := by decide +kernel
theorem dX1_firstFaller_69 : decode cX1_firstFaller 69 = .ok (.getfield 32, 3) := by decide +kernel
theorem dX1_firstFaller_72 : decode cX1_firstFaller 72 = .ok (.iload_n 3, 1) := by decide +kernel
theorem dX1_firstFaller_73 : decode cX1_firstFaller 73 = .ok (.iaload, 1) := by decide +kernel
theorem dX1_firstFaller_74 : decode cX1_firstFaller 74 = .ok (.iload_n 2, 1) := by decide +kernel
theorem dX1_firstFaller_75 : decode cX1_firstFaller 75 = .ok (.if_icmp .ge 12, 3) := by decide +kernel
theorem dX1_firstFaller_78 : decode cX1_firstFaller 78 = .ok (.aload_n 0, 1) := by decide +kernel
theorem dX1_firstFaller_79 : decode cX1_firstFaller 79 = .ok (.getfield 32, 3) := by decide +kernel
theorem dX1_firstFaller_82 : decode cX1_firstFaller 82 = .ok (.iload_n 3, 1) := by decide +kernel
theorem dX1_firstFaller_83 : decode cX1_firstFaller 83 = .ok (.iaload, 1) := by decide +kernel
theorem dX1_firstFaller_84 : decode cX1_firstFaller 84 = .ok (.istore_n 2, 1) := by decide +kernel
theorem dX1_firstFaller_85 : decode cX1_firstFaller 85 = .ok (.iload_n 3, 1) := by decide +kernel
theorem dX1_firstFaller_86 : decode cX1_firstFaller 86 = .ok (.istore_n 1, 1) := by decide +kernel
theorem dX1_firstFaller_87 : decode cX1_firstFaller 87 = .ok (.iinc 3 1, 3) := by decide +kernel
theorem dX1_firstFaller_90 : decode cX1_firstFaller 90 = .ok (.goto (-67), 3) := by decide +kernel
theorem dX1_firstFaller_93 : decode cX1_firstFaller 93 = .ok (.iload_n 1, 1) := by decide +kernel
theorem dX1_firstFaller_94 : decode cX1_firstFaller 94 = .ok (.ireturn, 1) := by decide +kernel
theorem dX1_standsThough_0 : decode cX1_standsThough 0 = .ok (.aload_n 0, 1) := by decide +kernel
theorem dX1_standsThough_1 : decode cX1_standsThough 1 = .ok (.getfield 16, 3) := by decide +kernel
theorem dX1_standsThough_4 : decode cX1_standsThough 4 = .ok (.aload_n 0, 1) := by decide +kernel
theorem dX1_standsThough_5 : decode cX1_standsThough 5 = .ok (.getfield 10, 3) := by decide +kernel
theorem dX1_standsThough_8 : decode cX1_standsThough 8 = .ok (.invokevirtual 131, 3) := by decide +kernel
theorem dX1_standsThough_11 : decode cX1_standsThough 11 = .ok (.iconst 0, 1) := by decide +kernel
theorem dX1_standsThough_12 : decode cX1_standsThough 12 = .ok (.istore 4, 2) := by decide +kernel
theorem dX1_standsThough_14 : decode cX1_standsThough 14 = .ok (.iload 4, 2) := by decide +kernel
theorem dX1_standsThough_16 : decode cX1_standsThough 16 = .ok (.aload_n 0, 1) := by decide +kernel
theorem dX1_standsThough_17 : decode cX1_standsThough 17 = .ok (.getfield 10, 3) := by decide +kernel
theorem dX1_standsThough_20 : decode cX1_standsThough 20 = .ok (.getfield 163, 3) := by decide +kernel
theorem dX1_standsThough_23 : decode cX1_standsThough 23 = .ok (.if_icmp .ge 44, 3) := by decide +kernel
theorem dX1_standsThough_26 : decode cX1_standsThough 26 = .ok (.iload_n 2, 1) := by decide +kernel
theorem dX1_standsThough_27 : decode cX1_standsThough 27 = .ok (.iconst 1, 1) := by decide +kernel
theorem dX1_standsThough_28 : decode cX1_standsThough 28 = .ok (.iload 4, 2) := by decide +kernel
theorem dX1_standsThough_30 : decode cX1_standsThough 30 = .ok (.ishl, 1) := by decide +kernel
theorem dX1_standsThough_31 : decode cX1_standsThough 31 = .ok (.iand, 1) := by decide +kernel
theorem dX1_standsThough_32 : decode cX1_standsThough 32 = .ok (.ifCond .eq 29, 3) := by decide +kernel
theorem dX1_standsThough_35 : decode cX1_standsThough 35 = .ok (.aload_n 0, 1) := by decide +kernel
theorem dX1_standsThough_36 : decode cX1_standsThough 36 = .ok (.getfield 16, 3) := by decide +kernel
theorem dX1_standsThough_39 : decode cX1_standsThough 39 = .ok (.iload 4, 2) := by decide +kernel
theorem dX1_standsThough_41 : decode cX1_standsThough 41 = .ok (.invokevirtual 166, 3) := by decide +kernel
theorem dX1_standsThough_44 : decode cX1_standsThough 44 = .ok (.ifCond .ne 5, 3) := by decide +kernel
theorem dX1_standsThough_47 : decode cX1_standsThough 47 = .ok (.iconst 0, 1) := by decide +kernel
theorem dX1_standsThough_48 : decode cX1_standsThough 48 = .ok (.ireturn, 1) := by decide +kernel
theorem dX1_standsThough_49 : decode cX1_standsThough 49 = .ok (.aload_n 0, 1) := by decide +kernel
theorem dX1_standsThough_50 : decode cX1_standsThough 50 = .ok (.getfield 16, 3) := by decide +kernel
theorem dX1_standsThough_53 : decode cX1_standsThough 53 = .ok (.iload 4, 2) := by decide +kernel
theorem dX1_standsThough_55 : decode cX1_standsThough 55 = .ok (.bipush 9, 2) := by decide +kernel
theorem dX1_standsThough_57 : decode cX1_standsThough 57 = .ok (.invokevirtual 90, 3) := by decide +kernel
theorem dX1_standsThough_60 : decode cX1_standsThough 60 = .ok (.pop, 1) := by decide +kernel
theorem dX1_standsThough_61 : decode cX1_standsThough 61 = .ok (.iinc 4 1, 3) := by decide +kernel
theorem dX1_standsThough_64 : decode cX1_standsThough 64 = .ok (.goto (-50), 3) := by decide +kernel
theorem dX1_standsThough_67 : decode cX1_standsThough 67 = .ok (.iconst 0, 1) := by decide +kernel
theorem dX1_standsThough_68 : decode cX1_standsThough 68 = .ok (.istore 4, 2) := by decide +kernel
theorem dX1_standsThough_70 : decode cX1_standsThough 70 = .ok (.iload 4, 2) := by decide +kernel
theorem dX1_standsThough_72 : decode cX1_standsThough 72 = .ok (.iload_n 3, 1) := by decide +kernel
theorem dX1_standsThough_73 : decode cX1_standsThough 73 = .ok (.if_icmp .ge 40, 3) := by decide +kernel
theorem dX1_standsThough_76 : decode cX1_standsThough 76 = .ok (.aload_n 0, 1) := by decide +kernel
theorem dX1_standsThough_77 : decode cX1_standsThough 77 = .ok (.getfield 16, 3) := by decide +kernel
theorem dX1_standsThough_80 : decode cX1_standsThough 80 = .ok (.iload_n 1, 1) := by decide +kernel
theorem dX1_standsThough_81 : decode cX1_standsThough 81 = .ok (.invokevirtual 166, 3) := by decide +kernel
theorem dX1_standsThough_84 : decode cX1_standsThough 84 = .ok (.ifCond .eq 29, 3) := by decide +kernel
theorem dX1_standsThough_87 : decode cX1_standsThough 87 = .ok (.aload_n 0, 1) := by decide +kernel
theorem dX1_standsThough_88 : decode cX1_standsThough 88 = .ok (.getfield 16, 3) := by decide +kernel
theorem dX1_standsThough_91 : decode cX1_standsThough 91 = .ok (.iconst 0, 1) := by decide +kernel
theorem dX1_standsThough_92 : decode cX1_standsThough 92 = .ok (.invokevirtual 296, 3) := by decide +kernel
theorem dX1_standsThough_95 : decode cX1_standsThough 95 = .ok (.ifCond .ne 12, 3) := by decide +kernel
theorem dX1_standsThough_98 : decode cX1_standsThough 98 = .ok (.aload_n 0, 1) := by decide +kernel
theorem dX1_standsThough_99 : decode cX1_standsThough 99 = .ok (.getfield 16, 3) := by decide +kernel
theorem dX1_standsThough_102 : decode cX1_standsThough 102 = .ok (.iload_n 1, 1) := by decide +kernel
theorem dX1_standsThough_103 : decode cX1_standsThough 103 = .ok (.invokevirtual 166, 3) := by decide +kernel
theorem dX1_standsThough_106 : decode cX1_standsThough 106 = .ok (.ireturn, 1) := by decide +kernel
theorem dX1_standsThough_107 : decode cX1_standsThough 107 = .ok (.iinc 4 1, 3) := by decide +kernel
theorem dX1_standsThough_110 : decode cX1_standsThough 110 = .ok (.goto (-40), 3) := by decide +kernel
theorem dX1_standsThough_113 : decode cX1_standsThough 113 = .ok (.aload_n 0, 1) := by decide +kernel
theorem dX1_standsThough_114 : decode cX1_standsThough 114 = .ok (.getfield 16, 3) := by decide +kernel
theorem dX1_standsThough_117 : decode cX1_standsThough 117 = .ok (.iload_n 1, 1) := by decide +kernel
theorem dX1_standsThough_118 : decode cX1_standsThough 118 = .ok (.invokevirtual 166, 3) := by decide +kernel
theorem dX1_standsThough_121 : decode cX1_standsThough 121 = .ok (.ireturn, 1) := by decide +kernel
theorem dX1_standingByOrder_0 : decode cX1_standingByOrder 0 = .ok (.aload_n 0, 1) := by decide +kernel
theorem dX1_standingByOrder_1 : decode cX1_standingByOrder 1 = .ok (.getfield 16, 3) := by decide +kernel
theorem dX1_standingByOrder_4 : decode cX1_standingByOrder 4 = .ok (.aload_n 0, 1) := by decide +kernel
theorem dX1_standingByOrder_5 : decode cX1_standingByOrder 5 = .ok (.getfield 10, 3) := by decide +kernel
theorem dX1_standingByOrder_8 : decode cX1_standingByOrder 8 = .ok (.invokevirtual 131, 3) := by decide +kernel
theorem dX1_standingByOrder_11 : decode cX1_standingByOrder 11 = .ok (.iload_n 1, 1) := by decide +kernel
theorem dX1_standingByOrder_12 : decode cX1_standingByOrder 12 = .ok (.istore 6, 2) := by decide +kernel
theorem dX1_standingByOrder_14 : decode cX1_standingByOrder 14 = .ok (.bipush 100, 2) := by decide +kernel
theorem dX1_standingByOrder_16 : decode cX1_standingByOrder 16 = .ok (.istore 7, 2) := by decide +kernel
theorem dX1_standingByOrder_18 : decode cX1_standingByOrder 18 = .ok (.iload 7, 2) := by decide +kernel
theorem dX1_standingByOrder_20 : decode cX1_standingByOrder 20 = .ok (.ifCond .le 83, 3) := by decide +kernel
theorem dX1_standingByOrder_23 : decode cX1_standingByOrder 23 = .ok (.iload 6, 2) := by decide +kernel
theorem dX1_standingByOrder_25 : decode cX1_standingByOrder 25 = .ok (.iload 7, 2) := by decide +kernel
theorem dX1_standingByOrder_27 : decode cX1_standingByOrder 27 = .ok (.idiv, 1) := by decide +kernel
theorem dX1_standingByOrder_28 : decode cX1_standingByOrder 28 = .ok (.istore 8, 2) := by decide +kernel
theorem dX1_standingByOrder_30 : decode cX1_standingByOrder 30 = .ok (.iload 6, 2) := by decide +kernel
theorem dX1_standingByOrder_32 : decode cX1_standingByOrder 32 = .ok (.iload 7, 2) := by decide +kernel
theorem dX1_standingByOrder_34 : decode cX1_standingByOrder 34 = .ok (.irem, 1) := by decide +kernel
theorem dX1_standingByOrder_35 : decode cX1_standingByOrder 35 = .ok (.istore 6, 2) := by decide +kernel
theorem dX1_standingByOrder_37 : decode cX1_standingByOrder 37 = .ok (.iload 8, 2) := by decide +kernel
theorem dX1_standingByOrder_39 : decode cX1_standingByOrder 39 = .ok (.ifCond .ne 7, 3) := by decide +kernel
theorem dX1_standingByOrder_42 : decode cX1_standingByOrder 42 = .ok (.iload_n 2, 1) := by decide +kernel
theorem dX1_standingByOrder_43 : decode cX1_standingByOrder 43 = .ok (.goto 15, 3) := by decide +kernel
theorem dX1_standingByOrder_46 : decode cX1_standingByOrder 46 = .ok (.iload 8, 2) := by decide +kernel
theorem dX1_standingByOrder_48 : decode cX1_standingByOrder 48 = .ok (.iconst 1, 1) := by decide +kernel
theorem dX1_standingByOrder_49 : decode cX1_standingByOrder 49 = .ok (.if_icmp .ne 7, 3) := by decide +kernel
theorem dX1_standingByOrder_52 : decode cX1_standingByOrder 52 = .ok (.iload_n 3, 1) := by decide +kernel
theorem dX1_standingByOrder_53 : decode cX1_standingByOrder 53 = .ok (.goto 5, 3) := by decide +kernel
theorem dX1_standingByOrder_56 : decode cX1_standingByOrder 56 = .ok (.iload 4, 2) := by decide +kernel
theorem dX1_standingByOrder_58 : decode cX1_standingByOrder 58 = .ok (.istore 9, 2) := by decide +kernel
theorem dX1_standingByOrder_60 : decode cX1_standingByOrder 60 = .ok (.aload_n 0, 1) := by decide +kernel
theorem dX1_standingByOrder_61 : decode cX1_standingByOrder 61 = .ok (.getfield 16, 3) := by decide +kernel
theorem dX1_standingByOrder_64 : decode cX1_standingByOrder 64 = .ok (.iload 9, 2) := by decide +kernel
theorem dX1_standingByOrder_66 : decode cX1_standingByOrder 66 = .ok (.invokevirtual 166, 3) := by decide +kernel
theorem dX1_standingByOrder_69 : decode cX1_standingByOrder 69 = .ok (.ifCond .eq 15, 3) := by decide +kernel
theorem dX1_standingByOrder_72 : decode cX1_standingByOrder 72 = .ok (.aload_n 0, 1) := by decide +kernel
theorem dX1_standingByOrder_73 : decode cX1_standingByOrder 73 = .ok (.getfield 16, 3) := by decide +kernel
theorem dX1_standingByOrder_76 : decode cX1_standingByOrder 76 = .ok (.iload 9, 2) := by decide +kernel
theorem dX1_standingByOrder_78 : decode cX1_standingByOrder 78 = .ok (.iload 5, 2) := by decide +kernel
theorem dX1_standingByOrder_80 : decode cX1_standingByOrder 80 = .ok (.invokevirtual 90, 3) := by decide +kernel
theorem dX1_standingByOrder_83 : decode cX1_standingByOrder 83 = .ok (.pop, 1) := by decide +kernel
theorem dX1_standingByOrder_84 : decode cX1_standingByOrder 84 = .ok (.aload_n 0, 1) := by decide +kernel
theorem dX1_standingByOrder_85 : decode cX1_standingByOrder 85 = .ok (.getfield 16, 3) := by decide +kernel
theorem dX1_standingByOrder_88 : decode cX1_standingByOrder 88 = .ok (.iconst 0, 1) := by decide +kernel
theorem dX1_standingByOrder_89 : decode cX1_standingByOrder 89 = .ok (.invokevirtual 296, 3) := by decide +kernel
theorem dX1_standingByOrder_92 : decode cX1_standingByOrder 92 = .ok (.pop, 1) := by decide +kernel
theorem dX1_standingByOrder_93 : decode cX1_standingByOrder 93 = .ok (.iload 7, 2) := by decide +kernel
theorem dX1_standingByOrder_95 : decode cX1_standingByOrder 95 = .ok (.bipush 10, 2) := by decide +kernel
theorem dX1_standingByOrder_97 : decode cX1_standingByOrder 97 = .ok (.idiv, 1) := by decide +kernel
theorem dX1_standingByOrder_98 : decode cX1_standingByOrder 98 = .ok (.istore 7, 2) := by decide +kernel
theorem dX1_standingByOrder_100 : decode cX1_standingByOrder 100 = .ok (.goto (-82), 3) := by decide +kernel
theorem dX1_standingByOrder_103 : decode cX1_standingByOrder 103 = .ok (.aload_n 0, 1) := by decide +kernel
theorem dX1_standingByOrder_104 : decode cX1_standingByOrder 104 = .ok (.getfield 16, 3) := by decide +kernel
theorem dX1_standingByOrder_107 : decode cX1_standingByOrder 107 = .ok (.bipush 7, 2) := by decide +kernel
theorem dX1_standingByOrder_109 : decode cX1_standingByOrder 109 = .ok (.invokevirtual 125, 3) := by decide +kernel
theorem dX1_standingByOrder_112 : decode cX1_standingByOrder 112 = .ok (.aload_n 0, 1) := by decide +kernel
theorem dX1_standingByOrder_113 : decode cX1_standingByOrder 113 = .ok (.getfield 16, 3) := by decide +kernel
theorem dX1_standingByOrder_116 : decode cX1_standingByOrder 116 = .ok (.invokevirtual 128, 3) := by decide +kernel
theorem dX1_standingByOrder_119 : decode cX1_standingByOrder 119 = .ok (.ireturn, 1) := by decide +kernel
theorem dX1_standingByTwo_0 : decode cX1_standingByTwo 0 = .ok (.aload_n 0, 1) := by decide +kernel
theorem dX1_standingByTwo_1 : decode cX1_standingByTwo 1 = .ok (.getfield 16, 3) := by decide +kernel
theorem dX1_standingByTwo_4 : decode cX1_standingByTwo 4 = .ok (.aload_n 0, 1) := by decide +kernel
theorem dX1_standingByTwo_5 : decode cX1_standingByTwo 5 = .ok (.getfield 10, 3) := by decide +kernel
theorem dX1_standingByTwo_8 : decode cX1_standingByTwo 8 = .ok (.invokevirtual 131, 3) := by decide +kernel
theorem dX1_standingByTwo_11 : decode cX1_standingByTwo 11 = .ok (.aload_n 0, 1) := by decide +kernel
theorem dX1_standingByTwo_12 : decode cX1_standingByTwo 12 = .ok (.getfield 16, 3) := by decide +kernel
theorem dX1_standingByTwo_15 : decode cX1_standingByTwo 15 = .ok (.iload_n 1, 1) := by decide +kernel
theorem dX1_standingByTwo_16 : decode cX1_standingByTwo 16 = .ok (.invokevirtual 166, 3) := by decide +kernel
theorem dX1_standingByTwo_19 : decode cX1_standingByTwo 19 = .ok (.ifCond .eq 14, 3) := by decide +kernel
theorem dX1_standingByTwo_22 : decode cX1_standingByTwo 22 = .ok (.aload_n 0, 1) := by decide +kernel
theorem dX1_standingByTwo_23 : decode cX1_standingByTwo 23 = .ok (.getfield 16, 3) := by decide +kernel
theorem dX1_standingByTwo_26 : decode cX1_standingByTwo 26 = .ok (.iload_n 1, 1) := by decide +kernel
theorem dX1_standingByTwo_27 : decode cX1_standingByTwo 27 = .ok (.bipush 9, 2) := by decide +kernel
theorem dX1_standingByTwo_29 : decode cX1_standingByTwo 29 = .ok (.invokevirtual 90, 3) := by decide +kernel
theorem dX1_standingByTwo_32 : decode cX1_standingByTwo 32 = .ok (.pop, 1) := by decide +kernel
theorem dX1_standingByTwo_33 : decode cX1_standingByTwo 33 = .ok (.aload_n 0, 1) := by decide +kernel
theorem dX1_standingByTwo_34 : decode cX1_standingByTwo 34 = .ok (.getfield 16, 3) := by decide +kernel
theorem dX1_standingByTwo_37 : decode cX1_standingByTwo 37 = .ok (.iload_n 2, 1) := by decide +kernel
theorem dX1_standingByTwo_38 : decode cX1_standingByTwo 38 = .ok (.invokevirtual 166, 3) := by decide +kernel
theorem dX1_standingByTwo_41 : decode cX1_standingByTwo 41 = .ok (.ifCond .eq 14, 3) := by decide +kernel
theorem dX1_standingByTwo_44 : decode cX1_standingByTwo 44 = .ok (.aload_n 0, 1) := by decide +kernel
theorem dX1_standingByTwo_45 : decode cX1_standingByTwo 45 = .ok (.getfield 16, 3) := by decide +kernel
theorem dX1_standingByTwo_48 : decode cX1_standingByTwo 48 = .ok (.iload_n 2, 1) := by decide +kernel
theorem dX1_standingByTwo_49 : decode cX1_standingByTwo 49 = .ok (.bipush 9, 2) := by decide +kernel
theorem dX1_standingByTwo_51 : decode cX1_standingByTwo 51 = .ok (.invokevirtual 90, 3) := by decide +kernel
theorem dX1_standingByTwo_54 : decode cX1_standingByTwo 54 = .ok (.pop, 1) := by decide +kernel
theorem dX1_standingByTwo_55 : decode cX1_standingByTwo 55 = .ok (.aload_n 0, 1) := by decide +kernel
theorem dX1_standingByTwo_56 : decode cX1_standingByTwo 56 = .ok (.getfield 16, 3) := by decide +kernel
theorem dX1_standingByTwo_59 : decode cX1_standingByTwo 59 = .ok (.iload_n 3, 1) := by decide +kernel
theorem dX1_standingByTwo_60 : decode cX1_standingByTwo 60 = .ok (.invokevirtual 125, 3) := by decide +kernel
theorem dX1_standingByTwo_63 : decode cX1_standingByTwo 63 = .ok (.aload_n 0, 1) := by decide +kernel
theorem dX1_standingByTwo_64 : decode cX1_standingByTwo 64 = .ok (.getfield 16, 3) := by decide +kernel
theorem dX1_standingByTwo_67 : decode cX1_standingByTwo 67 = .ok (.invokevirtual 128, 3) := by decide +kernel
theorem dX1_standingByTwo_70 : decode cX1_standingByTwo 70 = .ok (.ireturn, 1) := by decide +kernel
theorem dX1_keepsBoth_0 : decode cX1_keepsBoth 0 = .ok (.iload_n 0, 1) := by decide +kernel
theorem dX1_keepsBoth_1 : decode cX1_keepsBoth 1 = .ok (.iload_n 1, 1) := by decide +kernel
theorem dX1_keepsBoth_2 : decode cX1_keepsBoth 2 = .ok (.if_icmp .lt 12, 3) := by decide +kernel
theorem dX1_keepsBoth_5 : decode cX1_keepsBoth 5 = .ok (.iload_n 0, 1) := by decide +kernel
theorem dX1_keepsBoth_6 : decode cX1_keepsBoth 6 = .ok (.iload_n 2, 1) := by decide +kernel
theorem dX1_keepsBoth_7 : decode cX1_keepsBoth 7 = .ok (.if_icmp .gt 7, 3) := by decide +kernel
theorem dX1_keepsBoth_10 : decode cX1_keepsBoth 10 = .ok (.iconst 1, 1) := by decide +kernel
theorem dX1_keepsBoth_11 : decode cX1_keepsBoth 11 = .ok (.goto 4, 3) := by decide +kernel
theorem dX1_keepsBoth_14 : decode cX1_keepsBoth 14 = .ok (.iconst 0, 1) := by decide +kernel
theorem dX1_keepsBoth_15 : decode cX1_keepsBoth 15 = .ok (.ireturn, 1) := by decide +kernel
theorem dX1_standsInDraughts_0 : decode cX1_standsInDraughts 0 = .ok (.aload_n 0, 1) := by decide +kernel
theorem dX1_standsInDraughts_1 : decode cX1_standsInDraughts 1 = .ok (.getfield 16, 3) := by decide +kernel
theorem dX1_standsInDraughts_4 : decode cX1_standsInDraughts 4 = .ok (.aload_n 0, 1) := by decide +kernel
theorem dX1_standsInDraughts_5 : decode cX1_standsInDraughts 5 = .ok (.getfield 10, 3) := by decide +kernel
theorem dX1_standsInDraughts_8 : decode cX1_standsInDraughts 8 = .ok (.invokevirtual 131, 3) := by decide +kernel
theorem dX1_standsInDraughts_11 : decode cX1_standsInDraughts 11 = .ok (.iconst 0, 1) := by decide +kernel
theorem dX1_standsInDraughts_12 : decode cX1_standsInDraughts 12 = .ok (.istore 4, 2) := by decide +kernel
theorem dX1_standsInDraughts_14 : decode cX1_standsInDraughts 14 = .ok (.iload 4, 2) := by decide +kernel
theorem dX1_standsInDraughts_16 : decode cX1_standsInDraughts 16 = .ok (.iload_n 2, 1) := by decide +kernel
theorem dX1_standsInDraughts_17 : decode cX1_standsInDraughts 17 = .ok (.if_icmp .ge 34, 3) := by decide +kernel
theorem dX1_standsInDraughts_20 : decode cX1_standsInDraughts 20 = .ok (.aload_n 0, 1) := by decide +kernel
theorem dX1_standsInDraughts_21 : decode cX1_standsInDraughts 21 = .ok (.getfield 16, 3) := by decide +kernel
theorem dX1_standsInDraughts_24 : decode cX1_standsInDraughts 24 = .ok (.iload_n 1, 1) := by decide +kernel
theorem dX1_standsInDraughts_25 : decode cX1_standsInDraughts 25 = .ok (.invokevirtual 166, 3) := by decide +kernel
theorem dX1_standsInDraughts_28 : decode cX1_standsInDraughts 28 = .ok (.ifCond .eq 23, 3) := by decide +kernel
theorem dX1_standsInDraughts_31 : decode cX1_standsInDraughts 31 = .ok (.aload_n 0, 1) := by decide +kernel
theorem dX1_standsInDraughts_32 : decode cX1_standsInDraughts 32 = .ok (.getfield 16, 3) := by decide +kernel
theorem dX1_standsInDraughts_35 : decode cX1_standsInDraughts 35 = .ok (.iload_n 3, 1) := by decide +kernel
theorem dX1_standsInDraughts_36 : decode cX1_standsInDraughts 36 = .ok (.iload 4, 2) := by decide +kernel
theorem dX1_standsInDraughts_38 : decode cX1_standsInDraughts 38 = .ok (.ishr, 1) := by decide +kernel
theorem dX1_standsInDraughts_39 : decode cX1_standsInDraughts 39 = .ok (.iconst 1, 1) := by decide +kernel
theorem dX1_standsInDraughts_40 : decode cX1_standsInDraughts 40 = .ok (.iand, 1) := by decide +kernel
theorem dX1_standsInDraughts_41 : decode cX1_standsInDraughts 41 = .ok (.invokevirtual 296, 3) := by decide +kernel
theorem dX1_standsInDraughts_44 : decode cX1_standsInDraughts 44 = .ok (.pop, 1) := by decide +kernel
theorem dX1_standsInDraughts_45 : decode cX1_standsInDraughts 45 = .ok (.iinc 4 1, 3) := by decide +kernel
theorem dX1_standsInDraughts_48 : decode cX1_standsInDraughts 48 = .ok (.goto (-34), 3) := by decide +kernel
theorem dX1_standsInDraughts_51 : decode cX1_standsInDraughts 51 = .ok (.aload_n 0, 1) := by decide +kernel
theorem dX1_standsInDraughts_52 : decode cX1_standsInDraughts 52 = .ok (.getfield 16, 3) := by decide +kernel
theorem dX1_standsInDraughts_55 : decode cX1_standsInDraughts 55 = .ok (.iload_n 1, 1) := by decide +kernel
theorem dX1_standsInDraughts_56 : decode cX1_standsInDraughts 56 = .ok (.invokevirtual 166, 3) := by decide +kernel
theorem dX1_standsInDraughts_59 : decode cX1_standsInDraughts 59 = .ok (.ireturn, 1) := by decide +kernel
theorem dX1_power_0 : decode cX1_power 0 = .ok (.lconst 1, 1) := by decide +kernel
theorem dX1_power_1 : decode cX1_power 1 = .ok (.lstore_n 2, 1) := by decide +kernel
theorem dX1_power_2 : decode cX1_power 2 = .ok (.iconst 0, 1) := by decide +kernel
theorem dX1_power_3 : decode cX1_power 3 = .ok (.istore 4, 2) := by decide +kernel
theorem dX1_power_5 : decode cX1_power 5 = .ok (.iload 4, 2) := by decide +kernel
theorem dX1_power_7 : decode cX1_power 7 = .ok (.iload_n 1, 1) := by decide +kernel
theorem dX1_power_8 : decode cX1_power 8 = .ok (.if_icmp .ge 14, 3) := by decide +kernel
theorem dX1_power_11 : decode cX1_power 11 = .ok (.lload_n 2, 1) := by decide +kernel
theorem dX1_power_12 : decode cX1_power 12 = .ok (.iload_n 0, 1) := by decide +kernel
theorem dX1_power_13 : decode cX1_power 13 = .ok (.i2l, 1) := by decide +kernel
theorem dX1_power_14 : decode cX1_power 14 = .ok (.lmul, 1) := by decide +kernel
theorem dX1_power_15 : decode cX1_power 15 = .ok (.lstore_n 2, 1) := by decide +kernel
theorem dX1_power_16 : decode cX1_power 16 = .ok (.iinc 4 1, 3) := by decide +kernel
theorem dX1_power_19 : decode cX1_power 19 = .ok (.goto (-14), 3) := by decide +kernel
theorem dX1_power_22 : decode cX1_power 22 = .ok (.lload_n 2, 1) := by decide +kernel
theorem dX1_power_23 : decode cX1_power 23 = .ok (.lreturn, 1) := by decide +kernel
theorem dX1_greatestCommon_0 : decode cX1_greatestCommon 0 = .ok (.lload_n 0, 1) := by decide +kernel
theorem dX1_greatestCommon_1 : decode cX1_greatestCommon 1 = .ok (.lstore 4, 2) := by decide +kernel
theorem dX1_greatestCommon_3 : decode cX1_greatestCommon 3 = .ok (.lload_n 2, 1) := by decide +kernel
theorem dX1_greatestCommon_4 : decode cX1_greatestCommon 4 = .ok (.lstore 6, 2) := by decide +kernel
theorem dX1_greatestCommon_6 : decode cX1_greatestCommon 6 = .ok (.iconst 0, 1) := by decide +kernel
theorem dX1_greatestCommon_7 : decode cX1_greatestCommon 7 = .ok (.istore 8, 2) := by decide +kernel
theorem dX1_greatestCommon_9 : decode cX1_greatestCommon 9 = .ok (.iload 8, 2) := by decide +kernel
theorem dX1_greatestCommon_11 : decode cX1_greatestCommon 11 = .ok (.bipush 100, 2) := by decide +kernel
theorem dX1_greatestCommon_13 : decode cX1_greatestCommon 13 = .ok (.if_icmp .ge 31, 3) := by decide +kernel
theorem dX1_greatestCommon_16 : decode cX1_greatestCommon 16 = .ok (.lload 6, 2) := by decide +kernel
theorem dX1_greatestCommon_18 : decode cX1_greatestCommon 18 = .ok (.lconst 0, 1) := by decide +kernel
theorem dX1_greatestCommon_19 : decode cX1_greatestCommon 19 = .ok (.lcmp, 1) := by decide +kernel
theorem dX1_greatestCommon_20 : decode cX1_greatestCommon 20 = .ok (.ifCond .eq 24, 3) := by decide +kernel
theorem dX1_greatestCommon_23 : decode cX1_greatestCommon 23 = .ok (.lload 4, 2) := by decide +kernel
theorem dX1_greatestCommon_25 : decode cX1_greatestCommon 25 = .ok (.lload 6, 2) := by decide +kernel
theorem dX1_greatestCommon_27 : decode cX1_greatestCommon 27 = .ok (.lrem, 1) := by decide +kernel
theorem dX1_greatestCommon_28 : decode cX1_greatestCommon 28 = .ok (.lstore 9, 2) := by decide +kernel
theorem dX1_greatestCommon_30 : decode cX1_greatestCommon 30 = .ok (.lload 6, 2) := by decide +kernel
theorem dX1_greatestCommon_32 : decode cX1_greatestCommon 32 = .ok (.lstore 4, 2) := by decide +kernel
theorem dX1_greatestCommon_34 : decode cX1_greatestCommon 34 = .ok (.lload 9, 2) := by decide +kernel
theorem dX1_greatestCommon_36 : decode cX1_greatestCommon 36 = .ok (.lstore 6, 2) := by decide +kernel
theorem dX1_greatestCommon_38 : decode cX1_greatestCommon 38 = .ok (.iinc 8 1, 3) := by decide +kernel
theorem dX1_greatestCommon_41 : decode cX1_greatestCommon 41 = .ok (.goto (-32), 3) := by decide +kernel
theorem dX1_greatestCommon_44 : decode cX1_greatestCommon 44 = .ok (.lload 4, 2) := by decide +kernel
theorem dX1_greatestCommon_46 : decode cX1_greatestCommon 46 = .ok (.lreturn, 1) := by decide +kernel
theorem dX1_kindsByRow_0 : decode cX1_kindsByRow 0 = .ok (.iconst 0, 1) := by decide +kernel
theorem dX1_kindsByRow_1 : decode cX1_kindsByRow 1 = .ok (.istore_n 2, 1) := by decide +kernel
theorem dX1_kindsByRow_2 : decode cX1_kindsByRow 2 = .ok (.iconst 0, 1) := by decide +kernel
theorem dX1_kindsByRow_3 : decode cX1_kindsByRow 3 = .ok (.istore_n 3, 1) := by decide +kernel
theorem dX1_kindsByRow_4 : decode cX1_kindsByRow 4 = .ok (.iload_n 3, 1) := by decide +kernel
theorem dX1_kindsByRow_5 : decode cX1_kindsByRow 5 = .ok (.bipush 6, 2) := by decide +kernel
theorem dX1_kindsByRow_7 : decode cX1_kindsByRow 7 = .ok (.if_icmp .ge 33, 3) := by decide +kernel
theorem dX1_kindsByRow_10 : decode cX1_kindsByRow 10 = .ok (.aload_n 0, 1) := by decide +kernel
theorem dX1_kindsByRow_11 : decode cX1_kindsByRow 11 = .ok (.iload_n 1, 1) := by decide +kernel
theorem dX1_kindsByRow_12 : decode cX1_kindsByRow 12 = .ok (.iload_n 3, 1) := by decide +kernel
theorem dX1_kindsByRow_13 : decode cX1_kindsByRow 13 = .ok (.aload_n 0, 1) := by decide +kernel
theorem dX1_kindsByRow_14 : decode cX1_kindsByRow 14 = .ok (.getfield 10, 3) := by decide +kernel
theorem dX1_kindsByRow_17 : decode cX1_kindsByRow 17 = .ok (.getfield 61, 3) := by decide +kernel
theorem dX1_kindsByRow_20 : decode cX1_kindsByRow 20 = .ok (.iload_n 1, 1) := by decide +kernel
theorem dX1_kindsByRow_21 : decode cX1_kindsByRow 21 = .ok (.iaload, 1) := by decide +kernel
theorem dX1_kindsByRow_22 : decode cX1_kindsByRow 22 = .ok (.invokevirtual 299, 3) := by decide +kernel
theorem dX1_kindsByRow_25 : decode cX1_kindsByRow 25 = .ok (.ifCond .eq 9, 3) := by decide +kernel
theorem dX1_kindsByRow_28 : decode cX1_kindsByRow 28 = .ok (.iload_n 2, 1) := by decide +kernel
theorem dX1_kindsByRow_29 : decode cX1_kindsByRow 29 = .ok (.iconst 1, 1) := by decide +kernel
theorem dX1_kindsByRow_30 : decode cX1_kindsByRow 30 = .ok (.iload_n 3, 1) := by decide +kernel
theorem dX1_kindsByRow_31 : decode cX1_kindsByRow 31 = .ok (.ishl, 1) := by decide +kernel
theorem dX1_kindsByRow_32 : decode cX1_kindsByRow 32 = .ok (.ior, 1) := by decide +kernel
theorem dX1_kindsByRow_33 : decode cX1_kindsByRow 33 = .ok (.istore_n 2, 1) := by decide +kernel
theorem dX1_kindsByRow_34 : decode cX1_kindsByRow 34 = .ok (.iinc 3 1, 3) := by decide +kernel
theorem dX1_kindsByRow_37 : decode cX1_kindsByRow 37 = .ok (.goto (-33), 3) := by decide +kernel
theorem dX1_kindsByRow_40 : decode cX1_kindsByRow 40 = .ok (.iload_n 2, 1) := by decide +kernel
theorem dX1_kindsByRow_41 : decode cX1_kindsByRow 41 = .ok (.ireturn, 1) := by decide +kernel
theorem dX1_figuresByRow_0 : decode cX1_figuresByRow 0 = .ok (.iconst 0, 1) := by decide +kernel
theorem dX1_figuresByRow_1 : decode cX1_figuresByRow 1 = .ok (.istore_n 2, 1) := by decide +kernel
theorem dX1_figuresByRow_2 : decode cX1_figuresByRow 2 = .ok (.iconst 0, 1) := by decide +kernel
theorem dX1_figuresByRow_3 : decode cX1_figuresByRow 3 = .ok (.istore_n 3, 1) := by decide +kernel
theorem dX1_figuresByRow_4 : decode cX1_figuresByRow 4 = .ok (.iload_n 3, 1) := by decide +kernel
theorem dX1_figuresByRow_5 : decode cX1_figuresByRow 5 = .ok (.bipush 9, 2) := by decide +kernel
theorem dX1_figuresByRow_7 : decode cX1_figuresByRow 7 = .ok (.if_icmp .gt 33, 3) := by decide +kernel
theorem dX1_figuresByRow_10 : decode cX1_figuresByRow 10 = .ok (.aload_n 0, 1) := by decide +kernel
theorem dX1_figuresByRow_11 : decode cX1_figuresByRow 11 = .ok (.iload_n 1, 1) := by decide +kernel
theorem dX1_figuresByRow_12 : decode cX1_figuresByRow 12 = .ok (.aload_n 0, 1) := by decide +kernel
theorem dX1_figuresByRow_13 : decode cX1_figuresByRow 13 = .ok (.getfield 10, 3) := by decide +kernel
theorem dX1_figuresByRow_16 : decode cX1_figuresByRow 16 = .ok (.getfield 58, 3) := by decide +kernel
theorem dX1_figuresByRow_19 : decode cX1_figuresByRow 19 = .ok (.iload_n 1, 1) := by decide +kernel
theorem dX1_figuresByRow_20 : decode cX1_figuresByRow 20 = .ok (.iaload, 1) := by decide +kernel
theorem dX1_figuresByRow_21 : decode cX1_figuresByRow 21 = .ok (.iload_n 3, 1) := by decide +kernel
theorem dX1_figuresByRow_22 : decode cX1_figuresByRow 22 = .ok (.invokevirtual 299, 3) := by decide +kernel
theorem dX1_figuresByRow_25 : decode cX1_figuresByRow 25 = .ok (.ifCond .eq 9, 3) := by decide +kernel
theorem dX1_figuresByRow_28 : decode cX1_figuresByRow 28 = .ok (.iload_n 2, 1) := by decide +kernel
theorem dX1_figuresByRow_29 : decode cX1_figuresByRow 29 = .ok (.iconst 1, 1) := by decide +kernel
theorem dX1_figuresByRow_30 : decode cX1_figuresByRow 30 = .ok (.iload_n 3, 1) := by decide +kernel
theorem dX1_figuresByRow_31 : decode cX1_figuresByRow 31 = .ok (.ishl, 1) := by decide +kernel
theorem dX1_figuresByRow_32 : decode cX1_figuresByRow 32 = .ok (.ior, 1) := by decide +kernel
theorem dX1_figuresByRow_33 : decode cX1_figuresByRow 33 = .ok (.istore_n 2, 1) := by decide +kernel
theorem dX1_figuresByRow_34 : decode cX1_figuresByRow 34 = .ok (.iinc 3 1, 3) := by decide +kernel
theorem dX1_figuresByRow_37 : decode cX1_figuresByRow 37 = .ok (.goto (-33), 3) := by decide +kernel
theorem dX1_figuresByRow_40 : decode cX1_figuresByRow 40 = .ok (.iload_n 2, 1) := by decide +kernel
theorem dX1_figuresByRow_41 : decode cX1_figuresByRow 41 = .ok (.ireturn, 1) := by decide +kernel
theorem dX1_rowIsSoWith_0 : decode cX1_rowIsSoWith 0 = .ok (.aload_n 0, 1) := by decide +kernel
theorem dX1_rowIsSoWith_1 : decode cX1_rowIsSoWith 1 = .ok (.getfield 16, 3) := by decide +kernel
theorem dX1_rowIsSoWith_4 : decode cX1_rowIsSoWith 4 = .ok (.aload_n 0, 1) := by decide +kernel
theorem dX1_rowIsSoWith_5 : decode cX1_rowIsSoWith 5 = .ok (.getfield 10, 3) := by decide +kernel
theorem dX1_rowIsSoWith_8 : decode cX1_rowIsSoWith 8 = .ok (.invokevirtual 131, 3) := by decide +kernel
theorem dX1_rowIsSoWith_11 : decode cX1_rowIsSoWith 11 = .ok (.aload_n 0, 1) := by decide +kernel
theorem dX1_rowIsSoWith_12 : decode cX1_rowIsSoWith 12 = .ok (.getfield 16, 3) := by decide +kernel
theorem dX1_rowIsSoWith_15 : decode cX1_rowIsSoWith 15 = .ok (.iload_n 1, 1) := by decide +kernel
theorem dX1_rowIsSoWith_16 : decode cX1_rowIsSoWith 16 = .ok (.iload_n 2, 1) := by decide +kernel
theorem dX1_rowIsSoWith_17 : decode cX1_rowIsSoWith 17 = .ok (.iload_n 3, 1) := by decide +kernel
theorem dX1_rowIsSoWith_18 : decode cX1_rowIsSoWith 18 = .ok (.invokevirtual 118, 3) := by decide +kernel
theorem dX1_rowIsSoWith_21 : decode cX1_rowIsSoWith 21 = .ok (.aload_n 0, 1) := by decide +kernel
theorem dX1_rowIsSoWith_22 : decode cX1_rowIsSoWith 22 = .ok (.invokevirtual 135, 3) := by decide +kernel
theorem dX1_rowIsSoWith_25 : decode cX1_rowIsSoWith 25 = .ok (.iconst 0, 1) := by decide +kernel
theorem dX1_rowIsSoWith_26 : decode cX1_rowIsSoWith 26 = .ok (.istore 4, 2) := by decide +kernel
theorem dX1_rowIsSoWith_28 : decode cX1_rowIsSoWith 28 = .ok (.iload 4, 2) := by decide +kernel
theorem dX1_rowIsSoWith_30 : decode cX1_rowIsSoWith 30 = .ok (.aload_n 0, 1) := by decide +kernel
theorem dX1_rowIsSoWith_31 : decode cX1_rowIsSoWith 31 = .ok (.getfield 208, 3) := by decide +kernel
theorem dX1_rowIsSoWith_34 : decode cX1_rowIsSoWith 34 = .ok (.if_icmp .ge 61, 3) := by decide +kernel
theorem dX1_rowIsSoWith_37 : decode cX1_rowIsSoWith 37 = .ok (.iload 4, 2) := by decide +kernel
theorem dX1_rowIsSoWith_39 : decode cX1_rowIsSoWith 39 = .ok (.aload_n 0, 1) := by decide +kernel
theorem dX1_rowIsSoWith_40 : decode cX1_rowIsSoWith 40 = .ok (.getfield 10, 3) := by decide +kernel
theorem dX1_rowIsSoWith_43 : decode cX1_rowIsSoWith 43 = .ok (.getfield 163, 3) := by decide +kernel
theorem dX1_rowIsSoWith_46 : decode cX1_rowIsSoWith 46 = .ok (.if_icmp .ge 49, 3) := by decide +kernel
theorem dX1_rowIsSoWith_49 : decode cX1_rowIsSoWith 49 = .ok (.aload_n 0, 1) := by decide +kernel
theorem dX1_rowIsSoWith_50 : decode cX1_rowIsSoWith 50 = .ok (.getfield 32, 3) := by decide +kernel
theorem dX1_rowIsSoWith_53 : decode cX1_rowIsSoWith 53 = .ok (.iload 4, 2) := by decide +kernel
theorem dX1_rowIsSoWith_55 : decode cX1_rowIsSoWith 55 = .ok (.iaload, 1) := by decide +kernel
theorem dX1_rowIsSoWith_56 : decode cX1_rowIsSoWith 56 = .ok (.bipush (-9), 2) := by decide +kernel
theorem dX1_rowIsSoWith_58 : decode cX1_rowIsSoWith 58 = .ok (.if_icmp .ne 8, 3) := by decide +kernel
theorem dX1_rowIsSoWith_61 : decode cX1_rowIsSoWith 61 = .ok (.bipush 99, 2) := by decide +kernel
theorem dX1_rowIsSoWith_63 : decode cX1_rowIsSoWith 63 = .ok (.goto 10, 3) := by decide +kernel
theorem dX1_rowIsSoWith_66 : decode cX1_rowIsSoWith 66 = .ok (.aload_n 0, 1) := by decide +kernel
theorem dX1_rowIsSoWith_67 : decode cX1_rowIsSoWith 67 = .ok (.getfield 32, 3) := by decide +kernel
theorem dX1_rowIsSoWith_70 : decode cX1_rowIsSoWith 70 = .ok (.iload 4, 2) := by decide +kernel
theorem dX1_rowIsSoWith_72 : decode cX1_rowIsSoWith 72 = .ok (.iaload, 1) := by decide +kernel
theorem dX1_rowIsSoWith_73 : decode cX1_rowIsSoWith 73 = .ok (.istore 5, 2) := by decide +kernel
theorem dX1_rowIsSoWith_75 : decode cX1_rowIsSoWith 75 = .ok (.aload_n 0, 1) := by decide +kernel
theorem dX1_rowIsSoWith_76 : decode cX1_rowIsSoWith 76 = .ok (.getfield 26, 3) := by decide +kernel
theorem dX1_rowIsSoWith_79 : decode cX1_rowIsSoWith 79 = .ok (.iload 4, 2) := by decide +kernel
theorem dX1_rowIsSoWith_81 : decode cX1_rowIsSoWith 81 = .ok (.iaload, 1) := by decide +kernel
theorem dX1_rowIsSoWith_82 : decode cX1_rowIsSoWith 82 = .ok (.iload 5, 2) := by decide +kernel
theorem dX1_rowIsSoWith_84 : decode cX1_rowIsSoWith 84 = .ok (.if_icmp .eq 5, 3) := by decide +kernel
theorem dX1_rowIsSoWith_87 : decode cX1_rowIsSoWith 87 = .ok (.iconst 0, 1) := by decide +kernel
theorem dX1_rowIsSoWith_88 : decode cX1_rowIsSoWith 88 = .ok (.ireturn, 1) := by decide +kernel
theorem dX1_rowIsSoWith_89 : decode cX1_rowIsSoWith 89 = .ok (.iinc 4 1, 3) := by decide +kernel
theorem dX1_rowIsSoWith_92 : decode cX1_rowIsSoWith 92 = .ok (.goto (-64), 3) := by decide +kernel
theorem dX1_rowIsSoWith_95 : decode cX1_rowIsSoWith 95 = .ok (.iconst 1, 1) := by decide +kernel
theorem dX1_rowIsSoWith_96 : decode cX1_rowIsSoWith 96 = .ok (.ireturn, 1) := by decide +kernel
theorem dX1_firstNotSo_0 : decode cX1_firstNotSo 0 = .ok (.aload_n 0, 1) := by decide +kernel
theorem dX1_firstNotSo_1 : decode cX1_firstNotSo 1 = .ok (.getfield 16, 3) := by decide +kernel
theorem dX1_firstNotSo_4 : decode cX1_firstNotSo 4 = .ok (.aload_n 0, 1) := by decide +kernel
theorem dX1_firstNotSo_5 : decode cX1_firstNotSo 5 = .ok (.getfield 10, 3) := by decide +kernel
theorem dX1_firstNotSo_8 : decode cX1_firstNotSo 8 = .ok (.invokevirtual 131, 3) := by decide +kernel
theorem dX1_firstNotSo_11 : decode cX1_firstNotSo 11 = .ok (.iconst 0, 1) := by decide +kernel
theorem dX1_firstNotSo_12 : decode cX1_firstNotSo 12 = .ok (.istore_n 1, 1) := by decide +kernel
theorem dX1_firstNotSo_13 : decode cX1_firstNotSo 13 = .ok (.iload_n 1, 1) := by decide +kernel
theorem dX1_firstNotSo_14 : decode cX1_firstNotSo 14 = .ok (.aload_n 0, 1) := by decide +kernel
theorem dX1_firstNotSo_15 : decode cX1_firstNotSo 15 = .ok (.getfield 208, 3) := by decide +kernel
theorem dX1_firstNotSo_18 : decode cX1_firstNotSo 18 = .ok (.if_icmp .ge 36, 3) := by decide +kernel
theorem dX1_firstNotSo_21 : decode cX1_firstNotSo 21 = .ok (.aload_n 0, 1) := by decide +kernel
theorem dX1_firstNotSo_22 : decode cX1_firstNotSo 22 = .ok (.getfield 26, 3) := by decide +kernel
theorem dX1_firstNotSo_25 : decode cX1_firstNotSo 25 = .ok (.iload_n 1, 1) := by decide +kernel
theorem dX1_firstNotSo_26 : decode cX1_firstNotSo 26 = .ok (.iaload, 1) := by decide +kernel
theorem dX1_firstNotSo_27 : decode cX1_firstNotSo 27 = .ok (.aload_n 0, 1) := by decide +kernel
theorem dX1_firstNotSo_28 : decode cX1_firstNotSo 28 = .ok (.getfield 16, 3) := by decide +kernel
theorem dX1_firstNotSo_31 : decode cX1_firstNotSo 31 = .ok (.invokevirtual 128, 3) := by decide +kernel
theorem dX1_firstNotSo_34 : decode cX1_firstNotSo 34 = .ok (.if_icmp .eq 5, 3) := by decide +kernel
theorem dX1_firstNotSo_37 : decode cX1_firstNotSo 37 = .ok (.iload_n 1, 1) := by decide +kernel
theorem dX1_firstNotSo_38 : decode cX1_firstNotSo 38 = .ok (.ireturn, 1) := by decide +kernel
theorem dX1_firstNotSo_39 : decode cX1_firstNotSo 39 = .ok (.aload_n 0, 1) := by decide +kernel
theorem dX1_firstNotSo_40 : decode cX1_firstNotSo 40 = .ok (.getfield 16, 3) := by decide +kernel
theorem dX1_firstNotSo_43 : decode cX1_firstNotSo 43 = .ok (.iconst 0, 1) := by decide +kernel
theorem dX1_firstNotSo_44 : decode cX1_firstNotSo 44 = .ok (.invokevirtual 296, 3) := by decide +kernel
theorem dX1_firstNotSo_47 : decode cX1_firstNotSo 47 = .ok (.pop, 1) := by decide +kernel
theorem dX1_firstNotSo_48 : decode cX1_firstNotSo 48 = .ok (.iinc 1 1, 3) := by decide +kernel
theorem dX1_firstNotSo_51 : decode cX1_firstNotSo 51 = .ok (.goto (-38), 3) := by decide +kernel
theorem dX1_firstNotSo_54 : decode cX1_firstNotSo 54 = .ok (.bipush (-9), 2) := by decide +kernel
theorem dX1_firstNotSo_56 : decode cX1_firstNotSo 56 = .ok (.ireturn, 1) := by decide +kernel
theorem dX1_playLots_0 : decode cX1_playLots 0 = .ok (.aload_n 0, 1) := by decide +kernel
theorem dX1_playLots_1 : decode cX1_playLots 1 = .ok (.getfield 16, 3) := by decide +kernel
theorem dX1_playLots_4 : decode cX1_playLots 4 = .ok (.aload_n 0, 1) := by decide +kernel
theorem dX1_playLots_5 : decode cX1_playLots 5 = .ok (.getfield 10, 3) := by decide +kernel
theorem dX1_playLots_8 : decode cX1_playLots 8 = .ok (.invokevirtual 131, 3) := by decide +kernel
theorem dX1_playLots_11 : decode cX1_playLots 11 = .ok (.iconst 0, 1) := by decide +kernel
theorem dX1_playLots_12 : decode cX1_playLots 12 = .ok (.istore_n 1, 1) := by decide +kernel
theorem dX1_playLots_13 : decode cX1_playLots 13 = .ok (.iload_n 1, 1) := by decide +kernel
theorem dX1_playLots_14 : decode cX1_playLots 14 = .ok (.iconst 5, 1) := by decide +kernel
theorem dX1_playLots_15 : decode cX1_playLots 15 = .ok (.if_icmp .ge 58, 3) := by decide +kernel
theorem dX1_playLots_18 : decode cX1_playLots 18 = .ok (.aload_n 0, 1) := by decide +kernel
theorem dX1_playLots_19 : decode cX1_playLots 19 = .ok (.aload_n 0, 1) := by decide +kernel
theorem dX1_playLots_20 : decode cX1_playLots 20 = .ok (.getfield 10, 3) := by decide +kernel
theorem dX1_playLots_23 : decode cX1_playLots 23 = .ok (.getfield 163, 3) := by decide +kernel
theorem dX1_playLots_26 : decode cX1_playLots 26 = .ok (.invokevirtual 302, 3) := by decide +kernel
theorem dX1_playLots_29 : decode cX1_playLots 29 = .ok (.istore_n 2, 1) := by decide +kernel
theorem dX1_playLots_30 : decode cX1_playLots 30 = .ok (.aload_n 0, 1) := by decide +kernel
theorem dX1_playLots_31 : decode cX1_playLots 31 = .ok (.bipush 10, 2) := by decide +kernel
theorem dX1_playLots_33 : decode cX1_playLots 33 = .ok (.invokevirtual 302, 3) := by decide +kernel
theorem dX1_playLots_36 : decode cX1_playLots 36 = .ok (.istore_n 3, 1) := by decide +kernel
theorem dX1_playLots_37 : decode cX1_playLots 37 = .ok (.aload_n 0, 1) := by decide +kernel
theorem dX1_playLots_38 : decode cX1_playLots 38 = .ok (.getfield 16, 3) := by decide +kernel
theorem dX1_playLots_41 : decode cX1_playLots 41 = .ok (.iload_n 2, 1) := by decide +kernel
theorem dX1_playLots_42 : decode cX1_playLots 42 = .ok (.invokevirtual 166, 3) := by decide +kernel
theorem dX1_playLots_45 : decode cX1_playLots 45 = .ok (.ifCond .eq 13, 3) := by decide +kernel
theorem dX1_playLots_48 : decode cX1_playLots 48 = .ok (.aload_n 0, 1) := by decide +kernel
theorem dX1_playLots_49 : decode cX1_playLots 49 = .ok (.getfield 16, 3) := by decide +kernel
theorem dX1_playLots_52 : decode cX1_playLots 52 = .ok (.iload_n 2, 1) := by decide +kernel
theorem dX1_playLots_53 : decode cX1_playLots 53 = .ok (.iload_n 3, 1) := by decide +kernel
theorem dX1_playLots_54 : decode cX1_playLots 54 = .ok (.invokevirtual 90, 3) := by decide +kernel
theorem dX1_playLots_57 : decode cX1_playLots 57 = .ok (.pop, 1) := by decide +kernel
theorem dX1_playLots_58 : decode cX1_playLots 58 = .ok (.aload_n 0, 1) := by decide +kernel
theorem dX1_playLots_59 : decode cX1_playLots 59 = .ok (.getfield 16, 3) := by decide +kernel
theorem dX1_playLots_62 : decode cX1_playLots 62 = .ok (.iconst 0, 1) := by decide +kernel
theorem dX1_playLots_63 : decode cX1_playLots 63 = .ok (.invokevirtual 296, 3) := by decide +kernel
theorem dX1_playLots_66 : decode cX1_playLots 66 = .ok (.pop, 1) := by decide +kernel
theorem dX1_playLots_67 : decode cX1_playLots 67 = .ok (.iinc 1 1, 3) := by decide +kernel
theorem dX1_playLots_70 : decode cX1_playLots 70 = .ok (.goto (-57), 3) := by decide +kernel
theorem dX1_playLots_73 : decode cX1_playLots 73 = .ok (.return_, 1) := by decide +kernel
theorem dX1_drawBelow_0 : decode cX1_drawBelow 0 = .ok (.aload_n 0, 1) := by decide +kernel
theorem dX1_drawBelow_1 : decode cX1_drawBelow 1 = .ok (.aload_n 0, 1) := by decide +kernel
theorem dX1_drawBelow_2 : decode cX1_drawBelow 2 = .ok (.getfield 220, 3) := by decide +kernel
theorem dX1_drawBelow_5 : decode cX1_drawBelow 5 = .ok (.ldc_w 305, 3) := by decide +kernel
theorem dX1_drawBelow_8 : decode cX1_drawBelow 8 = .ok (.imul, 1) := by decide +kernel
theorem dX1_drawBelow_9 : decode cX1_drawBelow 9 = .ok (.ldc_w 306, 3) := by decide +kernel
theorem dX1_drawBelow_12 : decode cX1_drawBelow 12 = .ok (.iadd, 1) := by decide +kernel
theorem dX1_drawBelow_13 : decode cX1_drawBelow 13 = .ok (.putfield 220, 3) := by decide +kernel
theorem dX1_drawBelow_16 : decode cX1_drawBelow 16 = .ok (.iload_n 1, 1) := by decide +kernel
theorem dX1_drawBelow_17 : decode cX1_drawBelow 17 = .ok (.ifCond .le 20, 3) := by decide +kernel
theorem dX1_drawBelow_20 : decode cX1_drawBelow 20 = .ok (.aload_n 0, 1) := by decide +kernel
theorem dX1_drawBelow_21 : decode cX1_drawBelow 21 = .ok (.getfield 220, 3) := by decide +kernel
theorem dX1_drawBelow_24 : decode cX1_drawBelow 24 = .ok (.ldc_w 307, 3) := by decide +kernel
theorem dX1_drawBelow_27 : decode cX1_drawBelow 27 = .ok (.iand, 1) := by decide +kernel
theorem dX1_drawBelow_28 : decode cX1_drawBelow 28 = .ok (.sipush 256, 3) := by decide +kernel
theorem dX1_drawBelow_31 : decode cX1_drawBelow 31 = .ok (.idiv, 1) := by decide +kernel
theorem dX1_drawBelow_32 : decode cX1_drawBelow 32 = .ok (.iload_n 1, 1) := by decide +kernel
theorem dX1_drawBelow_33 : decode cX1_drawBelow 33 = .ok (.irem, 1) := by decide +kernel
theorem dX1_drawBelow_34 : decode cX1_drawBelow 34 = .ok (.goto 4, 3) := by decide +kernel
theorem dX1_drawBelow_37 : decode cX1_drawBelow 37 = .ok (.iconst 0, 1) := by decide +kernel
theorem dX1_drawBelow_38 : decode cX1_drawBelow 38 = .ok (.ireturn, 1) := by decide +kernel
