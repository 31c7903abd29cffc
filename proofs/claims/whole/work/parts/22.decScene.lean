theorem dX0_init_0 : decode cX0_init 0 = .ok (.aload_n 0, 1) := by decide +kernel
theorem dX0_init_1 : decode cX0_init 1 = .ok (.invokespecial 3, 3) := by decide +kernel
theorem dX0_init_4 : decode cX0_init 4 = .ok (.aload_n 0, 1) := by decide +kernel
theorem dX0_init_5 : decode cX0_init 5 = .ok (.iconst 1, 1) := by decide +kernel
theorem dX0_init_6 : decode cX0_init 6 = .ok (.putfield 9, 3) := by decide +kernel
theorem dX0_init_9 : decode cX0_init 9 = .ok (.aload_n 0, 1) := by decide +kernel
theorem dX0_init_10 : decode cX0_init 10 = .ok (.bipush 10, 2) := by decide +kernel
theorem dX0_init_12 : decode cX0_init 12 = .ok (.newarray .int, 2) := by decide +kernel
theorem dX0_init_14 : decode cX0_init 14 = .ok (.putfield 15, 3) := by decide +kernel
theorem dX0_init_17 : decode cX0_init 17 = .ok (.aload_n 0, 1) := by decide +kernel
theorem dX0_init_18 : decode cX0_init 18 = .ok (.bipush 10, 2) := by decide +kernel
theorem dX0_init_20 : decode cX0_init 20 = .ok (.newarray .int, 2) := by decide +kernel
theorem dX0_init_22 : decode cX0_init 22 = .ok (.putfield 19, 3) := by decide +kernel
theorem dX0_init_25 : decode cX0_init 25 = .ok (.aload_n 0, 1) := by decide +kernel
theorem dX0_init_26 : decode cX0_init 26 = .ok (.bipush 10, 2) := by decide +kernel
theorem dX0_init_28 : decode cX0_init 28 = .ok (.newarray .int, 2) := by decide +kernel
theorem dX0_init_30 : decode cX0_init 30 = .ok (.putfield 22, 3) := by decide +kernel
theorem dX0_init_33 : decode cX0_init 33 = .ok (.aload_n 0, 1) := by decide +kernel
theorem dX0_init_34 : decode cX0_init 34 = .ok (.bipush 10, 2) := by decide +kernel
theorem dX0_init_36 : decode cX0_init 36 = .ok (.newarray .int, 2) := by decide +kernel
theorem dX0_init_38 : decode cX0_init 38 = .ok (.putfield 25, 3) := by decide +kernel
theorem dX0_init_41 : decode cX0_init 41 = .ok (.return_, 1) := by decide +kernel
theorem dX0_copyFrom_0 : decode cX0_copyFrom 0 = .ok (.aload_n 0, 1) := by decide +kernel
theorem dX0_copyFrom_1 : decode cX0_copyFrom 1 = .ok (.aload_n 1, 1) := by decide +kernel
theorem dX0_copyFrom_2 : decode cX0_copyFrom 2 = .ok (.getfield 28, 3) := by decide +kernel
theorem dX0_copyFrom_5 : decode cX0_copyFrom 5 = .ok (.putfield 28, 3) := by decide +kernel
theorem dX0_copyFrom_8 : decode cX0_copyFrom 8 = .ok (.aload_n 0, 1) := by decide +kernel
theorem dX0_copyFrom_9 : decode cX0_copyFrom 9 = .ok (.aload_n 1, 1) := by decide +kernel
theorem dX0_copyFrom_10 : decode cX0_copyFrom 10 = .ok (.getfield 32, 3) := by decide +kernel
theorem dX0_copyFrom_13 : decode cX0_copyFrom 13 = .ok (.putfield 32, 3) := by decide +kernel
theorem dX0_copyFrom_16 : decode cX0_copyFrom 16 = .ok (.aload_n 0, 1) := by decide +kernel
theorem dX0_copyFrom_17 : decode cX0_copyFrom 17 = .ok (.aload_n 1, 1) := by decide +kernel
theorem dX0_copyFrom_18 : decode cX0_copyFrom 18 = .ok (.getfield 9, 3) := by decide +kernel
theorem dX0_copyFrom_21 : decode cX0_copyFrom 21 = .ok (.putfield 9, 3) := by decide +kernel
theorem dX0_copyFrom_24 : decode cX0_copyFrom 24 = .ok (.aload_n 0, 1) := by decide +kernel
theorem dX0_copyFrom_25 : decode cX0_copyFrom 25 = .ok (.aload_n 1, 1) := by decide +kernel
theorem dX0_copyFrom_26 : decode cX0_copyFrom 26 = .ok (.getfield 35, 3) := by decide +kernel
theorem dX0_copyFrom_29 : decode cX0_copyFrom 29 = .ok (.putfield 35, 3) := by decide +kernel
theorem dX0_copyFrom_32 : decode cX0_copyFrom 32 = .ok (.aload_n 0, 1) := by decide +kernel
theorem dX0_copyFrom_33 : decode cX0_copyFrom 33 = .ok (.aload_n 1, 1) := by decide +kernel
theorem dX0_copyFrom_34 : decode cX0_copyFrom 34 = .ok (.getfield 38, 3) := by decide +kernel
theorem dX0_copyFrom_37 : decode cX0_copyFrom 37 = .ok (.putfield 38, 3) := by decide +kernel
theorem dX0_copyFrom_40 : decode cX0_copyFrom 40 = .ok (.aload_n 1, 1) := by decide +kernel
theorem dX0_copyFrom_41 : decode cX0_copyFrom 41 = .ok (.getfield 15, 3) := by decide +kernel
theorem dX0_copyFrom_44 : decode cX0_copyFrom 44 = .ok (.iconst 0, 1) := by decide +kernel
theorem dX0_copyFrom_45 : decode cX0_copyFrom 45 = .ok (.aload_n 0, 1) := by decide +kernel
theorem dX0_copyFrom_46 : decode cX0_copyFrom 46 = .ok (.getfield 15, 3) := by decide +kernel
theorem dX0_copyFrom_49 : decode cX0_copyFrom 49 = .ok (.iconst 0, 1) := by decide +kernel
theorem dX0_copyFrom_50 : decode cX0_copyFrom 50 = .ok (.bipush 10, 2) := by decide +kernel
theorem dX0_copyFrom_52 : decode cX0_copyFrom 52 = .ok (.invokestatic 41, 3) := by decide +kernel
theorem dX0_copyFrom_55 : decode cX0_copyFrom 55 = .ok (.aload_n 1, 1) := by decide +kernel
theorem dX0_copyFrom_56 : decode cX0_copyFrom 56 = .ok (.getfield 19, 3) := by decide +kernel
theorem dX0_copyFrom_59 : decode cX0_copyFrom 59 = .ok (.iconst 0, 1) := by decide +kernel
theorem dX0_copyFrom_60 : decode cX0_copyFrom 60 = .ok (.aload_n 0, 1) := by decide +kernel
theorem dX0_copyFrom_61 : decode cX0_copyFrom 61 = .ok (.getfield 19, 3) := by decide +kernel
theorem dX0_copyFrom_64 : decode cX0_copyFrom 64 = .ok (.iconst 0, 1) := by decide +kernel
theorem dX0_copyFrom_65 : decode cX0_copyFrom 65 = .ok (.bipush 10, 2) := by decide +kernel
theorem dX0_copyFrom_67 : decode cX0_copyFrom 67 = .ok (.invokestatic 41, 3) := by decide +kernel
theorem dX0_copyFrom_70 : decode cX0_copyFrom 70 = .ok (.aload_n 1, 1) := by decide +kernel
theorem dX0_copyFrom_71 : decode cX0_copyFrom 71 = .ok (.getfield 22, 3) := by decide +kernel
theorem dX0_copyFrom_74 : decode cX0_copyFrom 74 = .ok (.iconst 0, 1) := by decide +kernel
theorem dX0_copyFrom_75 : decode cX0_copyFrom 75 = .ok (.aload_n 0, 1) := by decide +kernel
theorem dX0_copyFrom_76 : decode cX0_copyFrom 76 = .ok (.getfield 22, 3) := by decide +kernel
theorem dX0_copyFrom_79 : decode cX0_copyFrom 79 = .ok (.iconst 0, 1) := by decide +kernel
theorem dX0_copyFrom_80 : decode cX0_copyFrom 80 = .ok (.bipush 10, 2) := by decide +kernel
theorem dX0_copyFrom_82 : decode cX0_copyFrom 82 = .ok (.invokestatic 41, 3) := by decide +kernel
theorem dX0_copyFrom_85 : decode cX0_copyFrom 85 = .ok (.aload_n 1, 1) := by decide +kernel
theorem dX0_copyFrom_86 : decode cX0_copyFrom 86 = .ok (.getfield 25, 3) := by decide +kernel
theorem dX0_copyFrom_89 : decode cX0_copyFrom 89 = .ok (.iconst 0, 1) := by decide +kernel
theorem dX0_copyFrom_90 : decode cX0_copyFrom 90 = .ok (.aload_n 0, 1) := by decide +kernel
theorem dX0_copyFrom_91 : decode cX0_copyFrom 91 = .ok (.getfield 25, 3) := by decide +kernel
theorem dX0_copyFrom_94 : decode cX0_copyFrom 94 = .ok (.iconst 0, 1) := by decide +kernel
theorem dX0_copyFrom_95 : decode cX0_copyFrom 95 = .ok (.bipush 10, 2) := by decide +kernel
theorem dX0_copyFrom_97 : decode cX0_copyFrom 97 = .ok (.invokestatic 41, 3) := by decide +kernel
theorem dX0_copyFrom_100 : decode cX0_copyFrom 100 = .ok (.return_, 1) := by decide +kernel
theorem dX0_isThing_0 : decode cX0_isThing 0 = .ok (.iload_n 1, 1) := by decide +kernel
theorem dX0_isThing_1 : decode cX0_isThing 1 = .ok (.ifCond .lt 15, 3) := by decide +kernel
theorem dX0_isThing_4 : decode cX0_isThing 4 = .ok (.iload_n 1, 1) := by decide +kernel
theorem dX0_isThing_5 : decode cX0_isThing 5 = .ok (.aload_n 0, 1) := by decide +kernel
theorem dX0_isThing_6 : decode cX0_isThing 6 = .ok (.getfield 28, 3) := by decide +kernel
theorem dX0_isThing_9 : decode cX0_isThing 9 = .ok (.if_icmp .ge 7, 3) := by decide +kernel
theorem dX0_isThing_12 : decode cX0_isThing 12 = .ok (.iconst 1, 1) := by decide +kernel
theorem dX0_isThing_13 : decode cX0_isThing 13 = .ok (.goto 4, 3) := by decide +kernel
theorem dX0_isThing_16 : decode cX0_isThing 16 = .ok (.iconst 0, 1) := by decide +kernel
theorem dX0_isThing_17 : decode cX0_isThing 17 = .ok (.ireturn, 1) := by decide +kernel
theorem dX0_stands_0 : decode cX0_stands 0 = .ok (.iload_n 1, 1) := by decide +kernel
theorem dX0_stands_1 : decode cX0_stands 1 = .ok (.ifCond .lt 26, 3) := by decide +kernel
theorem dX0_stands_4 : decode cX0_stands 4 = .ok (.iload_n 1, 1) := by decide +kernel
theorem dX0_stands_5 : decode cX0_stands 5 = .ok (.aload_n 0, 1) := by decide +kernel
theorem dX0_stands_6 : decode cX0_stands 6 = .ok (.getfield 28, 3) := by decide +kernel
theorem dX0_stands_9 : decode cX0_stands 9 = .ok (.if_icmp .ge 18, 3) := by decide +kernel
theorem dX0_stands_12 : decode cX0_stands 12 = .ok (.aload_n 0, 1) := by decide +kernel
theorem dX0_stands_13 : decode cX0_stands 13 = .ok (.getfield 35, 3) := by decide +kernel
theorem dX0_stands_16 : decode cX0_stands 16 = .ok (.iconst 1, 1) := by decide +kernel
theorem dX0_stands_17 : decode cX0_stands 17 = .ok (.iload_n 1, 1) := by decide +kernel
theorem dX0_stands_18 : decode cX0_stands 18 = .ok (.ishl, 1) := by decide +kernel
theorem dX0_stands_19 : decode cX0_stands 19 = .ok (.iand, 1) := by decide +kernel
theorem dX0_stands_20 : decode cX0_stands 20 = .ok (.ifCond .eq 7, 3) := by decide +kernel
theorem dX0_stands_23 : decode cX0_stands 23 = .ok (.iconst 1, 1) := by decide +kernel
theorem dX0_stands_24 : decode cX0_stands 24 = .ok (.goto 4, 3) := by decide +kernel
theorem dX0_stands_27 : decode cX0_stands 27 = .ok (.iconst 0, 1) := by decide +kernel
theorem dX0_stands_28 : decode cX0_stands 28 = .ok (.ireturn, 1) := by decide +kernel
theorem dX0_lies_0 : decode cX0_lies 0 = .ok (.iload_n 1, 1) := by decide +kernel
theorem dX0_lies_1 : decode cX0_lies 1 = .ok (.ifCond .lt 26, 3) := by decide +kernel
theorem dX0_lies_4 : decode cX0_lies 4 = .ok (.iload_n 1, 1) := by decide +kernel
theorem dX0_lies_5 : decode cX0_lies 5 = .ok (.aload_n 0, 1) := by decide +kernel
theorem dX0_lies_6 : decode cX0_lies 6 = .ok (.getfield 28, 3) := by decide +kernel
theorem dX0_lies_9 : decode cX0_lies 9 = .ok (.if_icmp .ge 18, 3) := by decide +kernel
theorem dX0_lies_12 : decode cX0_lies 12 = .ok (.aload_n 0, 1) := by decide +kernel
theorem dX0_lies_13 : decode cX0_lies 13 = .ok (.getfield 38, 3) := by decide +kernel
theorem dX0_lies_16 : decode cX0_lies 16 = .ok (.iconst 1, 1) := by decide +kernel
theorem dX0_lies_17 : decode cX0_lies 17 = .ok (.iload_n 1, 1) := by decide +kernel
theorem dX0_lies_18 : decode cX0_lies 18 = .ok (.ishl, 1) := by decide +kernel
theorem dX0_lies_19 : decode cX0_lies 19 = .ok (.iand, 1) := by decide +kernel
theorem dX0_lies_20 : decode cX0_lies 20 = .ok (.ifCond .eq 7, 3) := by decide +kernel
theorem dX0_lies_23 : decode cX0_lies 23 = .ok (.iconst 1, 1) := by decide +kernel
theorem dX0_lies_24 : decode cX0_lies 24 = .ok (.goto 4, 3) := by decide +kernel
theorem dX0_lies_27 : decode cX0_lies 27 = .ok (.iconst 0, 1) := by decide +kernel
theorem dX0_lies_28 : decode cX0_lies 28 = .ok (.ireturn, 1) := by decide +kernel
theorem dX0_stateOf_0 : decode cX0_stateOf 0 = .ok (.aload_n 0, 1) := by decide +kernel
theorem dX0_stateOf_1 : decode cX0_stateOf 1 = .ok (.iload_n 1, 1) := by decide +kernel
theorem dX0_stateOf_2 : decode cX0_stateOf 2 = .ok (.invokevirtual 47, 3) := by decide +kernel
theorem dX0_stateOf_5 : decode cX0_stateOf 5 = .ok (.ifCond .eq 5, 3) := by decide +kernel
theorem dX0_stateOf_8 : decode cX0_stateOf 8 = .ok (.iconst 0, 1) := by decide +kernel
theorem dX0_stateOf_9 : decode cX0_stateOf 9 = .ok (.ireturn, 1) := by decide +kernel
theorem dX0_stateOf_10 : decode cX0_stateOf 10 = .ok (.aload_n 0, 1) := by decide +kernel
theorem dX0_stateOf_11 : decode cX0_stateOf 11 = .ok (.iload_n 1, 1) := by decide +kernel
theorem dX0_stateOf_12 : decode cX0_stateOf 12 = .ok (.invokevirtual 51, 3) := by decide +kernel
theorem dX0_stateOf_15 : decode cX0_stateOf 15 = .ok (.ifCond .eq 7, 3) := by decide +kernel
theorem dX0_stateOf_18 : decode cX0_stateOf 18 = .ok (.iconst 1, 1) := by decide +kernel
theorem dX0_stateOf_19 : decode cX0_stateOf 19 = .ok (.goto 4, 3) := by decide +kernel
theorem dX0_stateOf_22 : decode cX0_stateOf 22 = .ok (.iconst 2, 1) := by decide +kernel
theorem dX0_stateOf_23 : decode cX0_stateOf 23 = .ok (.ireturn, 1) := by decide +kernel
theorem dX0_allGone_0 : decode cX0_allGone 0 = .ok (.iconst 1, 1) := by decide +kernel
theorem dX0_allGone_1 : decode cX0_allGone 1 = .ok (.aload_n 0, 1) := by decide +kernel
theorem dX0_allGone_2 : decode cX0_allGone 2 = .ok (.getfield 28, 3) := by decide +kernel
theorem dX0_allGone_5 : decode cX0_allGone 5 = .ok (.ishl, 1) := by decide +kernel
theorem dX0_allGone_6 : decode cX0_allGone 6 = .ok (.iconst 1, 1) := by decide +kernel
theorem dX0_allGone_7 : decode cX0_allGone 7 = .ok (.isub, 1) := by decide +kernel
theorem dX0_allGone_8 : decode cX0_allGone 8 = .ok (.aload_n 0, 1) := by decide +kernel
theorem dX0_allGone_9 : decode cX0_allGone 9 = .ok (.getfield 35, 3) := by decide +kernel
theorem dX0_allGone_12 : decode cX0_allGone 12 = .ok (.iconst (-1), 1) := by decide +kernel
theorem dX0_allGone_13 : decode cX0_allGone 13 = .ok (.ixor, 1) := by decide +kernel
theorem dX0_allGone_14 : decode cX0_allGone 14 = .ok (.iand, 1) := by decide +kernel
theorem dX0_allGone_15 : decode cX0_allGone 15 = .ok (.aload_n 0, 1) := by decide +kernel
theorem dX0_allGone_16 : decode cX0_allGone 16 = .ok (.getfield 38, 3) := by decide +kernel
theorem dX0_allGone_19 : decode cX0_allGone 19 = .ok (.iconst (-1), 1) := by decide +kernel
theorem dX0_allGone_20 : decode cX0_allGone 20 = .ok (.ixor, 1) := by decide +kernel
theorem dX0_allGone_21 : decode cX0_allGone 21 = .ok (.iand, 1) := by decide +kernel
theorem dX0_allGone_22 : decode cX0_allGone 22 = .ok (.ireturn, 1) := by decide +kernel
theorem dX0_countStanding_0 : decode cX0_countStanding 0 = .ok (.aload_n 0, 1) := by decide +kernel
theorem dX0_countStanding_1 : decode cX0_countStanding 1 = .ok (.getfield 35, 3) := by decide +kernel
theorem dX0_countStanding_4 : decode cX0_countStanding 4 = .ok (.invokestatic 54, 3) := by decide +kernel
theorem dX0_countStanding_7 : decode cX0_countStanding 7 = .ok (.ireturn, 1) := by decide +kernel
theorem dX0_hasGround_0 : decode cX0_hasGround 0 = .ok (.aload_n 0, 1) := by decide +kernel
theorem dX0_hasGround_1 : decode cX0_hasGround 1 = .ok (.getfield 22, 3) := by decide +kernel
theorem dX0_hasGround_4 : decode cX0_hasGround 4 = .ok (.iload_n 1, 1) := by decide +kernel
theorem dX0_hasGround_5 : decode cX0_hasGround 5 = .ok (.iaload, 1) := by decide +kernel
theorem dX0_hasGround_6 : decode cX0_hasGround 6 = .ok (.istore_n 2, 1) := by decide +kernel
theorem dX0_hasGround_7 : decode cX0_hasGround 7 = .ok (.iload_n 2, 1) := by decide +kernel
theorem dX0_hasGround_8 : decode cX0_hasGround 8 = .ok (.bipush (-9), 2) := by decide +kernel
theorem dX0_hasGround_10 : decode cX0_hasGround 10 = .ok (.if_icmp .ne 10, 3) := by decide +kernel
theorem dX0_hasGround_13 : decode cX0_hasGround 13 = .ok (.aload_n 0, 1) := by decide +kernel
theorem dX0_hasGround_14 : decode cX0_hasGround 14 = .ok (.getfield 9, 3) := by decide +kernel
theorem dX0_hasGround_17 : decode cX0_hasGround 17 = .ok (.goto 19, 3) := by decide +kernel
theorem dX0_hasGround_20 : decode cX0_hasGround 20 = .ok (.aload_n 0, 1) := by decide +kernel
theorem dX0_hasGround_21 : decode cX0_hasGround 21 = .ok (.getfield 35, 3) := by decide +kernel
theorem dX0_hasGround_24 : decode cX0_hasGround 24 = .ok (.iconst 1, 1) := by decide +kernel
theorem dX0_hasGround_25 : decode cX0_hasGround 25 = .ok (.iload_n 2, 1) := by decide +kernel
theorem dX0_hasGround_26 : decode cX0_hasGround 26 = .ok (.ishl, 1) := by decide +kernel
theorem dX0_hasGround_27 : decode cX0_hasGround 27 = .ok (.iand, 1) := by decide +kernel
theorem dX0_hasGround_28 : decode cX0_hasGround 28 = .ok (.ifCond .eq 7, 3) := by decide +kernel
theorem dX0_hasGround_31 : decode cX0_hasGround 31 = .ok (.iconst 1, 1) := by decide +kernel
theorem dX0_hasGround_32 : decode cX0_hasGround 32 = .ok (.goto 4, 3) := by decide +kernel
theorem dX0_hasGround_35 : decode cX0_hasGround 35 = .ok (.iconst 0, 1) := by decide +kernel
theorem dX0_hasGround_36 : decode cX0_hasGround 36 = .ok (.ireturn, 1) := by decide +kernel
theorem dX0_isHeld_0 : decode cX0_isHeld 0 = .ok (.aload_n 0, 1) := by decide +kernel
theorem dX0_isHeld_1 : decode cX0_isHeld 1 = .ok (.iload_n 1, 1) := by decide +kernel
theorem dX0_isHeld_2 : decode cX0_isHeld 2 = .ok (.invokevirtual 47, 3) := by decide +kernel
theorem dX0_isHeld_5 : decode cX0_isHeld 5 = .ok (.ifCond .eq 15, 3) := by decide +kernel
theorem dX0_isHeld_8 : decode cX0_isHeld 8 = .ok (.aload_n 0, 1) := by decide +kernel
theorem dX0_isHeld_9 : decode cX0_isHeld 9 = .ok (.iload_n 1, 1) := by decide +kernel
theorem dX0_isHeld_10 : decode cX0_isHeld 10 = .ok (.invokevirtual 60, 3) := by decide +kernel
theorem dX0_isHeld_13 : decode cX0_isHeld 13 = .ok (.ifCond .eq 7, 3) := by decide +kernel
theorem dX0_isHeld_16 : decode cX0_isHeld 16 = .ok (.iconst 1, 1) := by decide +kernel
theorem dX0_isHeld_17 : decode cX0_isHeld 17 = .ok (.goto 4, 3) := by decide +kernel
theorem dX0_isHeld_20 : decode cX0_isHeld 20 = .ok (.iconst 0, 1) := by decide +kernel
theorem dX0_isHeld_21 : decode cX0_isHeld 21 = .ok (.ireturn, 1) := by decide +kernel
theorem dX0_isSure_0 : decode cX0_isSure 0 = .ok (.iconst 0, 1) := by decide +kernel
theorem dX0_isSure_1 : decode cX0_isSure 1 = .ok (.istore_n 1, 1) := by decide +kernel
theorem dX0_isSure_2 : decode cX0_isSure 2 = .ok (.iload_n 1, 1) := by decide +kernel
theorem dX0_isSure_3 : decode cX0_isSure 3 = .ok (.aload_n 0, 1) := by decide +kernel
theorem dX0_isSure_4 : decode cX0_isSure 4 = .ok (.getfield 28, 3) := by decide +kernel
theorem dX0_isSure_7 : decode cX0_isSure 7 = .ok (.if_icmp .ge 27, 3) := by decide +kernel
theorem dX0_isSure_10 : decode cX0_isSure 10 = .ok (.aload_n 0, 1) := by decide +kernel
theorem dX0_isSure_11 : decode cX0_isSure 11 = .ok (.iload_n 1, 1) := by decide +kernel
theorem dX0_isSure_12 : decode cX0_isSure 12 = .ok (.invokevirtual 47, 3) := by decide +kernel
theorem dX0_isSure_15 : decode cX0_isSure 15 = .ok (.ifCond .eq 13, 3) := by decide +kernel
theorem dX0_isSure_18 : decode cX0_isSure 18 = .ok (.aload_n 0, 1) := by decide +kernel
theorem dX0_isSure_19 : decode cX0_isSure 19 = .ok (.iload_n 1, 1) := by decide +kernel
theorem dX0_isSure_20 : decode cX0_isSure 20 = .ok (.invokevirtual 60, 3) := by decide +kernel
theorem dX0_isSure_23 : decode cX0_isSure 23 = .ok (.ifCond .ne 5, 3) := by decide +kernel
theorem dX0_isSure_26 : decode cX0_isSure 26 = .ok (.iconst 0, 1) := by decide +kernel
theorem dX0_isSure_27 : decode cX0_isSure 27 = .ok (.ireturn, 1) := by decide +kernel
theorem dX0_isSure_28 : decode cX0_isSure 28 = .ok (.iinc 1 1, 3) := by decide +kernel
theorem dX0_isSure_31 : decode cX0_isSure 31 = .ok (.goto (-29), 3) := by decide +kernel
theorem dX0_isSure_34 : decode cX0_isSure 34 = .ok (.iconst 1, 1) := by decide +kernel
theorem dX0_isSure_35 : decode cX0_isSure 35 = .ok (.ireturn, 1) := by decide +kernel
theorem dX0_countWatching_0 : decode cX0_countWatching 0 = .ok (.iconst 0, 1) := by decide +kernel
theorem dX0_countWatching_1 : decode cX0_countWatching 1 = .ok (.istore_n 1, 1) := by decide +kernel
theorem dX0_countWatching_2 : decode cX0_countWatching 2 = .ok (.iconst 0, 1) := by decide +kernel
theorem dX0_countWatching_3 : decode cX0_countWatching 3 = .ok (.istore_n 2, 1) := by decide +kernel
theorem dX0_countWatching_4 : decode cX0_countWatching 4 = .ok (.aload_n 0, 1) := by decide +kernel
theorem dX0_countWatching_5 : decode cX0_countWatching 5 = .ok (.getfield 38, 3) := by decide +kernel
theorem dX0_countWatching_8 : decode cX0_countWatching 8 = .ok (.ifCond .eq 38, 3) := by decide +kernel
theorem dX0_countWatching_11 : decode cX0_countWatching 11 = .ok (.iload_n 2, 1) := by decide +kernel
theorem dX0_countWatching_12 : decode cX0_countWatching 12 = .ok (.aload_n 0, 1) := by decide +kernel
theorem dX0_countWatching_13 : decode cX0_countWatching 13 = .ok (.getfield 28, 3) := by decide +kernel
theorem dX0_countWatching_16 : decode cX0_countWatching 16 = .ok (.if_icmp .ge 30, 3) := by decide +kernel
theorem dX0_countWatching_19 : decode cX0_countWatching 19 = .ok (.aload_n 0, 1) := by decide +kernel
theorem dX0_countWatching_20 : decode cX0_countWatching 20 = .ok (.iload_n 2, 1) := by decide +kernel
theorem dX0_countWatching_21 : decode cX0_countWatching 21 = .ok (.invokevirtual 47, 3) := by decide +kernel
theorem dX0_countWatching_24 : decode cX0_countWatching 24 = .ok (.ifCond .eq 16, 3) := by decide +kernel
theorem dX0_countWatching_27 : decode cX0_countWatching 27 = .ok (.aload_n 0, 1) := by decide +kernel
theorem dX0_countWatching_28 : decode cX0_countWatching 28 = .ok (.getfield 15, 3) := by decide +kernel
theorem dX0_countWatching_31 : decode cX0_countWatching 31 = .ok (.iload_n 2, 1) := by decide +kernel
theorem dX0_countWatching_32 : decode cX0_countWatching 32 = .ok (.iaload, 1) := by decide +kernel
theorem dX0_countWatching_33 : decode cX0_countWatching 33 = .ok (.iconst 4, 1) := by decide +kernel
theorem dX0_countWatching_34 : decode cX0_countWatching 34 = .ok (.if_icmp .ne 6, 3) := by decide +kernel
theorem dX0_countWatching_37 : decode cX0_countWatching 37 = .ok (.iinc 1 1, 3) := by decide +kernel
theorem dX0_countWatching_40 : decode cX0_countWatching 40 = .ok (.iinc 2 1, 3) := by decide +kernel
theorem dX0_countWatching_43 : decode cX0_countWatching 43 = .ok (.goto (-39), 3) := by decide +kernel
theorem dX0_countWatching_46 : decode cX0_countWatching 46 = .ok (.iload_n 1, 1) := by decide +kernel
theorem dX0_countWatching_47 : decode cX0_countWatching 47 = .ok (.ireturn, 1) := by decide +kernel
theorem dX0_habitOf_0 : decode cX0_habitOf 0 = .ok (.aload_n 0, 1) := by decide +kernel
theorem dX0_habitOf_1 : decode cX0_habitOf 1 = .ok (.getfield 19, 3) := by decide +kernel
theorem dX0_habitOf_4 : decode cX0_habitOf 4 = .ok (.iload_n 1, 1) := by decide +kernel
theorem dX0_habitOf_5 : decode cX0_habitOf 5 = .ok (.iaload, 1) := by decide +kernel
theorem dX0_habitOf_6 : decode cX0_habitOf 6 = .ok (.iconst 3, 1) := by decide +kernel
theorem dX0_habitOf_7 : decode cX0_habitOf 7 = .ok (.idiv, 1) := by decide +kernel
theorem dX0_habitOf_8 : decode cX0_habitOf 8 = .ok (.istore_n 2, 1) := by decide +kernel
theorem dX0_habitOf_9 : decode cX0_habitOf 9 = .ok (.iconst 0, 1) := by decide +kernel
theorem dX0_habitOf_10 : decode cX0_habitOf 10 = .ok (.iload_n 2, 1) := by decide +kernel
theorem dX0_habitOf_11 : decode cX0_habitOf 11 = .ok (.iconst 1, 1) := by decide +kernel
theorem dX0_habitOf_12 : decode cX0_habitOf 12 = .ok (.isub, 1) := by decide +kernel
theorem dX0_habitOf_13 : decode cX0_habitOf 13 = .ok (.invokestatic 63, 3) := by decide +kernel
theorem dX0_habitOf_16 : decode cX0_habitOf 16 = .ok (.istore_n 3, 1) := by decide +kernel
theorem dX0_habitOf_17 : decode cX0_habitOf 17 = .ok (.iload_n 2, 1) := by decide +kernel
theorem dX0_habitOf_18 : decode cX0_habitOf 18 = .ok (.aload_n 0, 1) := by decide +kernel
theorem dX0_habitOf_19 : decode cX0_habitOf 19 = .ok (.getfield 19, 3) := by decide +kernel
theorem dX0_habitOf_22 : decode cX0_habitOf 22 = .ok (.iload_n 1, 1) := by decide +kernel
theorem dX0_habitOf_23 : decode cX0_habitOf 23 = .ok (.iaload, 1) := by decide +kernel
theorem dX0_habitOf_24 : decode cX0_habitOf 24 = .ok (.iadd, 1) := by decide +kernel
theorem dX0_habitOf_25 : decode cX0_habitOf 25 = .ok (.istore 4, 2) := by decide +kernel
theorem dX0_habitOf_27 : decode cX0_habitOf 27 = .ok (.aload_n 0, 1) := by decide +kernel
theorem dX0_habitOf_28 : decode cX0_habitOf 28 = .ok (.getfield 15, 3) := by decide +kernel
theorem dX0_habitOf_31 : decode cX0_habitOf 31 = .ok (.iload_n 1, 1) := by decide +kernel
theorem dX0_habitOf_32 : decode cX0_habitOf 32 = .ok (.iaload, 1) := by decide +kernel
theorem dX0_habitOf_33 : decode cX0_habitOf 33 = .ok (.tableswitch 70 1 5 #[35, 37, 40, 46, 66], 35) := by decide +kernel
theorem dX0_habitOf_68 : decode cX0_habitOf 68 = .ok (.iload_n 3, 1) := by decide +kernel
theorem dX0_habitOf_69 : decode cX0_habitOf 69 = .ok (.ireturn, 1) := by decide +kernel
theorem dX0_habitOf_70 : decode cX0_habitOf 70 = .ok (.iload 4, 2) := by decide +kernel
theorem dX0_habitOf_72 : decode cX0_habitOf 72 = .ok (.ireturn, 1) := by decide +kernel
theorem dX0_habitOf_73 : decode cX0_habitOf 73 = .ok (.iload 4, 2) := by decide +kernel
theorem dX0_habitOf_75 : decode cX0_habitOf 75 = .ok (.bipush 20, 2) := by decide +kernel
theorem dX0_habitOf_77 : decode cX0_habitOf 77 = .ok (.iadd, 1) := by decide +kernel
theorem dX0_habitOf_78 : decode cX0_habitOf 78 = .ok (.ireturn, 1) := by decide +kernel
theorem dX0_habitOf_79 : decode cX0_habitOf 79 = .ok (.aload_n 0, 1) := by decide +kernel
theorem dX0_habitOf_80 : decode cX0_habitOf 80 = .ok (.getfield 38, 3) := by decide +kernel
theorem dX0_habitOf_83 : decode cX0_habitOf 83 = .ok (.iconst 1, 1) := by decide +kernel
theorem dX0_habitOf_84 : decode cX0_habitOf 84 = .ok (.iload_n 1, 1) := by decide +kernel
theorem dX0_habitOf_85 : decode cX0_habitOf 85 = .ok (.ishl, 1) := by decide +kernel
theorem dX0_habitOf_86 : decode cX0_habitOf 86 = .ok (.iconst (-1), 1) := by decide +kernel
theorem dX0_habitOf_87 : decode cX0_habitOf 87 = .ok (.ixor, 1) := by decide +kernel
theorem dX0_habitOf_88 : decode cX0_habitOf 88 = .ok (.iand, 1) := by decide +kernel
theorem dX0_habitOf_89 : decode cX0_habitOf 89 = .ok (.ifCond .eq 7, 3) := by decide +kernel
theorem dX0_habitOf_92 : decode cX0_habitOf 92 = .ok (.iconst 0, 1) := by decide +kernel
theorem dX0_habitOf_93 : decode cX0_habitOf 93 = .ok (.goto 5, 3) := by decide +kernel
theorem dX0_habitOf_96 : decode cX0_habitOf 96 = .ok (.iload 4, 2) := by decide +kernel
theorem dX0_habitOf_98 : decode cX0_habitOf 98 = .ok (.ireturn, 1) := by decide +kernel
theorem dX0_habitOf_99 : decode cX0_habitOf 99 = .ok (.iload_n 3, 1) := by decide +kernel
theorem dX0_habitOf_100 : decode cX0_habitOf 100 = .ok (.iconst 2, 1) := by decide +kernel
theorem dX0_habitOf_101 : decode cX0_habitOf 101 = .ok (.iadd, 1) := by decide +kernel
theorem dX0_habitOf_102 : decode cX0_habitOf 102 = .ok (.ireturn, 1) := by decide +kernel
theorem dX0_habitOf_103 : decode cX0_habitOf 103 = .ok (.iload_n 2, 1) := by decide +kernel
theorem dX0_habitOf_104 : decode cX0_habitOf 104 = .ok (.ireturn, 1) := by decide +kernel
theorem dX0_gripOf_0 : decode cX0_gripOf 0 = .ok (.aload_n 0, 1) := by decide +kernel
theorem dX0_gripOf_1 : decode cX0_gripOf 1 = .ok (.getfield 19, 3) := by decide +kernel
theorem dX0_gripOf_4 : decode cX0_gripOf 4 = .ok (.iload_n 1, 1) := by decide +kernel
theorem dX0_gripOf_5 : decode cX0_gripOf 5 = .ok (.iaload, 1) := by decide +kernel
theorem dX0_gripOf_6 : decode cX0_gripOf 6 = .ok (.istore_n 2, 1) := by decide +kernel
theorem dX0_gripOf_7 : decode cX0_gripOf 7 = .ok (.aload_n 0, 1) := by decide +kernel
theorem dX0_gripOf_8 : decode cX0_gripOf 8 = .ok (.getfield 15, 3) := by decide +kernel
theorem dX0_gripOf_11 : decode cX0_gripOf 11 = .ok (.iload_n 1, 1) := by decide +kernel
theorem dX0_gripOf_12 : decode cX0_gripOf 12 = .ok (.iaload, 1) := by decide +kernel
theorem dX0_gripOf_13 : decode cX0_gripOf 13 = .ok (.tableswitch 55 1 5 #[35, 40, 44, 46, 50], 35) := by decide +kernel
theorem dX0_gripOf_48 : decode cX0_gripOf 48 = .ok (.bipush 9, 2) := by decide +kernel
theorem dX0_gripOf_50 : decode cX0_gripOf 50 = .ok (.iload_n 2, 1) := by decide +kernel
theorem dX0_gripOf_51 : decode cX0_gripOf 51 = .ok (.isub, 1) := by decide +kernel
theorem dX0_gripOf_52 : decode cX0_gripOf 52 = .ok (.ireturn, 1) := by decide +kernel
theorem dX0_gripOf_53 : decode cX0_gripOf 53 = .ok (.iload_n 2, 1) := by decide +kernel
theorem dX0_gripOf_54 : decode cX0_gripOf 54 = .ok (.iconst 2, 1) := by decide +kernel
theorem dX0_gripOf_55 : decode cX0_gripOf 55 = .ok (.idiv, 1) := by decide +kernel
theorem dX0_gripOf_56 : decode cX0_gripOf 56 = .ok (.ireturn, 1) := by decide +kernel
theorem dX0_gripOf_57 : decode cX0_gripOf 57 = .ok (.iconst 0, 1) := by decide +kernel
theorem dX0_gripOf_58 : decode cX0_gripOf 58 = .ok (.ireturn, 1) := by decide +kernel
theorem dX0_gripOf_59 : decode cX0_gripOf 59 = .ok (.iload_n 2, 1) := by decide +kernel
theorem dX0_gripOf_60 : decode cX0_gripOf 60 = .ok (.iconst 2, 1) := by decide +kernel
theorem dX0_gripOf_61 : decode cX0_gripOf 61 = .ok (.idiv, 1) := by decide +kernel
theorem dX0_gripOf_62 : decode cX0_gripOf 62 = .ok (.ireturn, 1) := by decide +kernel
theorem dX0_gripOf_63 : decode cX0_gripOf 63 = .ok (.bipush 10, 2) := by decide +kernel
theorem dX0_gripOf_65 : decode cX0_gripOf 65 = .ok (.iload_n 2, 1) := by decide +kernel
theorem dX0_gripOf_66 : decode cX0_gripOf 66 = .ok (.isub, 1) := by decide +kernel
theorem dX0_gripOf_67 : decode cX0_gripOf 67 = .ok (.ireturn, 1) := by decide +kernel
theorem dX0_gripOf_68 : decode cX0_gripOf 68 = .ok (.iload_n 2, 1) := by decide +kernel
theorem dX0_gripOf_69 : decode cX0_gripOf 69 = .ok (.ireturn, 1) := by decide +kernel
theorem dX0_addThing_0 : decode cX0_addThing 0 = .ok (.aload_n 0, 1) := by decide +kernel
theorem dX0_addThing_1 : decode cX0_addThing 1 = .ok (.getfield 28, 3) := by decide +kernel
theorem dX0_addThing_4 : decode cX0_addThing 4 = .ok (.bipush 10, 2) := by decide +kernel
theorem dX0_addThing_6 : decode cX0_addThing 6 = .ok (.if_icmp .lt 5, 3) := by decide +kernel
theorem dX0_addThing_9 : decode cX0_addThing 9 = .ok (.iconst 0, 1) := by decide +kernel
theorem dX0_addThing_10 : decode cX0_addThing 10 = .ok (.ireturn, 1) := by decide +kernel
theorem dX0_addThing_11 : decode cX0_addThing 11 = .ok (.aload_n 0, 1) := by decide +kernel
theorem dX0_addThing_12 : decode cX0_addThing 12 = .ok (.getfield 22, 3) := by decide +kernel
theorem dX0_addThing_15 : decode cX0_addThing 15 = .ok (.aload_n 0, 1) := by decide +kernel
theorem dX0_addThing_16 : decode cX0_addThing 16 = .ok (.getfield 28, 3) := by decide +kernel
theorem dX0_addThing_19 : decode cX0_addThing 19 = .ok (.iload_n 3, 1) := by decide +kernel
theorem dX0_addThing_20 : decode cX0_addThing 20 = .ok (.iastore, 1) := by decide +kernel
theorem dX0_addThing_21 : decode cX0_addThing 21 = .ok (.aload_n 0, 1) := by decide +kernel
theorem dX0_addThing_22 : decode cX0_addThing 22 = .ok (.getfield 25, 3) := by decide +kernel
theorem dX0_addThing_25 : decode cX0_addThing 25 = .ok (.aload_n 0, 1) := by decide +kernel
theorem dX0_addThing_26 : decode cX0_addThing 26 = .ok (.getfield 28, 3) := by decide +kernel
theorem dX0_addThing_29 : decode cX0_addThing 29 = .ok (.iconst 0, 1) := by decide +kernel
theorem dX0_addThing_30 : decode cX0_addThing 30 = .ok (.iastore, 1) := by decide +kernel
theorem dX0_addThing_31 : decode cX0_addThing 31 = .ok (.aload_n 0, 1) := by decide +kernel
theorem dX0_addThing_32 : decode cX0_addThing 32 = .ok (.dup, 1) := by decide +kernel
theorem dX0_addThing_33 : decode cX0_addThing 33 = .ok (.getfield 35, 3) := by decide +kernel
theorem dX0_addThing_36 : decode cX0_addThing 36 = .ok (.iconst 1, 1) := by decide +kernel
theorem dX0_addThing_37 : decode cX0_addThing 37 = .ok (.aload_n 0, 1) := by decide +kernel
theorem dX0_addThing_38 : decode cX0_addThing 38 = .ok (.getfield 28, 3) := by decide +kernel
theorem dX0_addThing_41 : decode cX0_addThing 41 = .ok (.ishl, 1) := by decide +kernel
theorem dX0_addThing_42 : decode cX0_addThing 42 = .ok (.ior, 1) := by decide +kernel
theorem dX0_addThing_43 : decode cX0_addThing 43 = .ok (.putfield 35, 3) := by decide +kernel
theorem dX0_addThing_46 : decode cX0_addThing 46 = .ok (.aload_n 0, 1) := by decide +kernel
theorem dX0_addThing_47 : decode cX0_addThing 47 = .ok (.dup, 1) := by decide +kernel
theorem dX0_addThing_48 : decode cX0_addThing 48 = .ok (.getfield 28, 3) := by decide +kernel
theorem dX0_addThing_51 : decode cX0_addThing 51 = .ok (.iconst 1, 1) := by decide +kernel
theorem dX0_addThing_52 : decode cX0_addThing 52 = .ok (.iadd, 1) := by decide +kernel
theorem dX0_addThing_53 : decode cX0_addThing 53 = .ok (.putfield 28, 3) := by decide +kernel
theorem dX0_addThing_56 : decode cX0_addThing 56 = .ok (.aload_n 0, 1) := by decide +kernel
theorem dX0_addThing_57 : decode cX0_addThing 57 = .ok (.aload_n 0, 1) := by decide +kernel
theorem dX0_addThing_58 : decode cX0_addThing 58 = .ok (.getfield 28, 3) := by decide +kernel
theorem dX0_addThing_61 : decode cX0_addThing 61 = .ok (.iconst 1, 1) := by decide +kernel
theorem dX0_addThing_62 : decode cX0_addThing 62 = .ok (.isub, 1) := by decide +kernel
theorem dX0_addThing_63 : decode cX0_addThing 63 = .ok (.iload_n 1, 1) := by decide +kernel
theorem dX0_addThing_64 : decode cX0_addThing 64 = .ok (.iload_n 2, 1) := by decide +kernel
theorem dX0_addThing_65 : decode cX0_addThing 65 = .ok (.invokevirtual 69, 3) := by decide +kernel
theorem dX0_addThing_68 : decode cX0_addThing 68 = .ok (.iconst 1, 1) := by decide +kernel
theorem dX0_addThing_69 : decode cX0_addThing 69 = .ok (.ireturn, 1) := by decide +kernel
theorem dX0_become_0 : decode cX0_become 0 = .ok (.aload_n 0, 1) := by decide +kernel
theorem dX0_become_1 : decode cX0_become 1 = .ok (.iload_n 1, 1) := by decide +kernel
theorem dX0_become_2 : decode cX0_become 2 = .ok (.invokevirtual 73, 3) := by decide +kernel
theorem dX0_become_5 : decode cX0_become 5 = .ok (.ifCond .eq 17, 3) := by decide +kernel
theorem dX0_become_8 : decode cX0_become 8 = .ok (.aload_n 0, 1) := by decide +kernel
theorem dX0_become_9 : decode cX0_become 9 = .ok (.getfield 15, 3) := by decide +kernel
theorem dX0_become_12 : decode cX0_become 12 = .ok (.iload_n 1, 1) := by decide +kernel
theorem dX0_become_13 : decode cX0_become 13 = .ok (.iload_n 2, 1) := by decide +kernel
theorem dX0_become_14 : decode cX0_become 14 = .ok (.iastore, 1) := by decide +kernel
theorem dX0_become_15 : decode cX0_become 15 = .ok (.aload_n 0, 1) := by decide +kernel
theorem dX0_become_16 : decode cX0_become 16 = .ok (.getfield 19, 3) := by decide +kernel
theorem dX0_become_19 : decode cX0_become 19 = .ok (.iload_n 1, 1) := by decide +kernel
theorem dX0_become_20 : decode cX0_become 20 = .ok (.iload_n 3, 1) := by decide +kernel
theorem dX0_become_21 : decode cX0_become 21 = .ok (.iastore, 1) := by decide +kernel
theorem dX0_become_22 : decode cX0_become 22 = .ok (.return_, 1) := by decide +kernel
theorem dX0_setUp_0 : decode cX0_setUp 0 = .ok (.aload_n 0, 1) := by decide +kernel
theorem dX0_setUp_1 : decode cX0_setUp 1 = .ok (.iload_n 1, 1) := by decide +kernel
theorem dX0_setUp_2 : decode cX0_setUp 2 = .ok (.invokevirtual 73, 3) := by decide +kernel
theorem dX0_setUp_5 : decode cX0_setUp 5 = .ok (.ifCond .eq 36, 3) := by decide +kernel
theorem dX0_setUp_8 : decode cX0_setUp 8 = .ok (.aload_n 0, 1) := by decide +kernel
theorem dX0_setUp_9 : decode cX0_setUp 9 = .ok (.dup, 1) := by decide +kernel
theorem dX0_setUp_10 : decode cX0_setUp 10 = .ok (.getfield 35, 3) := by decide +kernel
theorem dX0_setUp_13 : decode cX0_setUp 13 = .ok (.iconst 1, 1) := by decide +kernel
theorem dX0_setUp_14 : decode cX0_setUp 14 = .ok (.iload_n 1, 1) := by decide +kernel
theorem dX0_setUp_15 : decode cX0_setUp 15 = .ok (.ishl, 1) := by decide +kernel
theorem dX0_setUp_16 : decode cX0_setUp 16 = .ok (.ior, 1) := by decide +kernel
theorem dX0_setUp_17 : decode cX0_setUp 17 = .ok (.putfield 35, 3) := by decide +kernel
theorem dX0_setUp_20 : decode cX0_setUp 20 = .ok (.aload_n 0, 1) := by decide +kernel
theorem dX0_setUp_21 : decode cX0_setUp 21 = .ok (.dup, 1) := by decide +kernel
theorem dX0_setUp_22 : decode cX0_setUp 22 = .ok (.getfield 38, 3) := by decide +kernel
theorem dX0_setUp_25 : decode cX0_setUp 25 = .ok (.iconst 1, 1) := by decide +kernel
theorem dX0_setUp_26 : decode cX0_setUp 26 = .ok (.iload_n 1, 1) := by decide +kernel
theorem dX0_setUp_27 : decode cX0_setUp 27 = .ok (.ishl, 1) := by decide +kernel
theorem dX0_setUp_28 : decode cX0_setUp 28 = .ok (.iconst (-1), 1) := by decide +kernel
theorem dX0_setUp_29 : decode cX0_setUp 29 = .ok (.ixor, 1) := by decide +kernel
theorem dX0_setUp_30 : decode cX0_setUp 30 = .ok (.iand, 1) := by decide +kernel
theorem dX0_setUp_31 : decode cX0_setUp 31 = .ok (.putfield 38, 3) := by decide +kernel
theorem dX0_setUp_34 : decode cX0_setUp 34 = .ok (.aload_n 0, 1) := by decide +kernel
theorem dX0_setUp_35 : decode cX0_setUp 35 = .ok (.getfield 25, 3) := by decide +kernel
theorem dX0_setUp_38 : decode cX0_setUp 38 = .ok (.iload_n 1, 1) := by decide +kernel
theorem dX0_setUp_39 : decode cX0_setUp 39 = .ok (.iconst 0, 1) := by decide +kernel
theorem dX0_setUp_40 : decode cX0_setUp 40 = .ok (.iastore, 1) := by decide +kernel
theorem dX0_setUp_41 : decode cX0_setUp 41 = .ok (.return_, 1) := by decide +kernel
theorem dX0_countOnFloor_0 : decode cX0_countOnFloor 0 = .ok (.iconst 0, 1) := by decide +kernel
theorem dX0_countOnFloor_1 : decode cX0_countOnFloor 1 = .ok (.istore_n 1, 1) := by decide +kernel
theorem dX0_countOnFloor_2 : decode cX0_countOnFloor 2 = .ok (.iconst 0, 1) := by decide +kernel
theorem dX0_countOnFloor_3 : decode cX0_countOnFloor 3 = .ok (.istore_n 2, 1) := by decide +kernel
theorem dX0_countOnFloor_4 : decode cX0_countOnFloor 4 = .ok (.iload_n 2, 1) := by decide +kernel
theorem dX0_countOnFloor_5 : decode cX0_countOnFloor 5 = .ok (.aload_n 0, 1) := by decide +kernel
theorem dX0_countOnFloor_6 : decode cX0_countOnFloor 6 = .ok (.getfield 28, 3) := by decide +kernel
theorem dX0_countOnFloor_9 : decode cX0_countOnFloor 9 = .ok (.if_icmp .ge 31, 3) := by decide +kernel
theorem dX0_countOnFloor_12 : decode cX0_countOnFloor 12 = .ok (.aload_n 0, 1) := by decide +kernel
theorem dX0_countOnFloor_13 : decode cX0_countOnFloor 13 = .ok (.iload_n 2, 1) := by decide +kernel
theorem dX0_countOnFloor_14 : decode cX0_countOnFloor 14 = .ok (.invokevirtual 47, 3) := by decide +kernel
theorem dX0_countOnFloor_17 : decode cX0_countOnFloor 17 = .ok (.ifCond .eq 17, 3) := by decide +kernel
theorem dX0_countOnFloor_20 : decode cX0_countOnFloor 20 = .ok (.aload_n 0, 1) := by decide +kernel
theorem dX0_countOnFloor_21 : decode cX0_countOnFloor 21 = .ok (.getfield 22, 3) := by decide +kernel
theorem dX0_countOnFloor_24 : decode cX0_countOnFloor 24 = .ok (.iload_n 2, 1) := by decide +kernel
theorem dX0_countOnFloor_25 : decode cX0_countOnFloor 25 = .ok (.iaload, 1) := by decide +kernel
theorem dX0_countOnFloor_26 : decode cX0_countOnFloor 26 = .ok (.bipush (-9), 2) := by decide +kernel
theorem dX0_countOnFloor_28 : decode cX0_countOnFloor 28 = .ok (.if_icmp .ne 6, 3) := by decide +kernel
theorem dX0_countOnFloor_31 : decode cX0_countOnFloor 31 = .ok (.iinc 1 1, 3) := by decide +kernel
theorem dX0_countOnFloor_34 : decode cX0_countOnFloor 34 = .ok (.iinc 2 1, 3) := by decide +kernel
theorem dX0_countOnFloor_37 : decode cX0_countOnFloor 37 = .ok (.goto (-33), 3) := by decide +kernel
theorem dX0_countOnFloor_40 : decode cX0_countOnFloor 40 = .ok (.iload_n 1, 1) := by decide +kernel
theorem dX0_countOnFloor_41 : decode cX0_countOnFloor 41 = .ok (.ireturn, 1) := by decide +kernel
theorem dX0_caughtOn_0 : decode cX0_caughtOn 0 = .ok (.iconst 0, 1) := by decide +kernel
theorem dX0_caughtOn_1 : decode cX0_caughtOn 1 = .ok (.istore_n 3, 1) := by decide +kernel
theorem dX0_caughtOn_2 : decode cX0_caughtOn 2 = .ok (.iconst 0, 1) := by decide +kernel
theorem dX0_caughtOn_3 : decode cX0_caughtOn 3 = .ok (.istore 4, 2) := by decide +kernel
theorem dX0_caughtOn_5 : decode cX0_caughtOn 5 = .ok (.iload 4, 2) := by decide +kernel
theorem dX0_caughtOn_7 : decode cX0_caughtOn 7 = .ok (.aload_n 0, 1) := by decide +kernel
theorem dX0_caughtOn_8 : decode cX0_caughtOn 8 = .ok (.getfield 28, 3) := by decide +kernel
theorem dX0_caughtOn_11 : decode cX0_caughtOn 11 = .ok (.if_icmp .ge 46, 3) := by decide +kernel
theorem dX0_caughtOn_14 : decode cX0_caughtOn 14 = .ok (.aload_n 0, 1) := by decide +kernel
theorem dX0_caughtOn_15 : decode cX0_caughtOn 15 = .ok (.iload 4, 2) := by decide +kernel
theorem dX0_caughtOn_17 : decode cX0_caughtOn 17 = .ok (.invokevirtual 47, 3) := by decide +kernel
theorem dX0_caughtOn_20 : decode cX0_caughtOn 20 = .ok (.ifCond .eq 31, 3) := by decide +kernel
theorem dX0_caughtOn_23 : decode cX0_caughtOn 23 = .ok (.aload_n 0, 1) := by decide +kernel
theorem dX0_caughtOn_24 : decode cX0_caughtOn 24 = .ok (.getfield 22, 3) := by decide +kernel
theorem dX0_caughtOn_27 : decode cX0_caughtOn 27 = .ok (.iload 4, 2) := by decide +kernel
theorem dX0_caughtOn_29 : decode cX0_caughtOn 29 = .ok (.iaload, 1) := by decide +kernel
theorem dX0_caughtOn_30 : decode cX0_caughtOn 30 = .ok (.iload_n 1, 1) := by decide +kernel
theorem dX0_caughtOn_31 : decode cX0_caughtOn 31 = .ok (.if_icmp .ne 20, 3) := by decide +kernel
theorem dX0_caughtOn_34 : decode cX0_caughtOn 34 = .ok (.aload_n 0, 1) := by decide +kernel
theorem dX0_caughtOn_35 : decode cX0_caughtOn 35 = .ok (.iload 4, 2) := by decide +kernel
theorem dX0_caughtOn_37 : decode cX0_caughtOn 37 = .ok (.invokevirtual 76, 3) := by decide +kernel
theorem dX0_caughtOn_40 : decode cX0_caughtOn 40 = .ok (.iload_n 2, 1) := by decide +kernel
theorem dX0_caughtOn_41 : decode cX0_caughtOn 41 = .ok (.if_icmp .le 10, 3) := by decide +kernel
theorem dX0_caughtOn_44 : decode cX0_caughtOn 44 = .ok (.iload_n 3, 1) := by decide +kernel
theorem dX0_caughtOn_45 : decode cX0_caughtOn 45 = .ok (.iconst 1, 1) := by decide +kernel
theorem dX0_caughtOn_46 : decode cX0_caughtOn 46 = .ok (.iload 4, 2) := by decide +kernel
theorem dX0_caughtOn_48 : decode cX0_caughtOn 48 = .ok (.ishl, 1) := by decide +kernel
theorem dX0_caughtOn_49 : decode cX0_caughtOn 49 = .ok (.ior, 1) := by decide +kernel
theorem dX0_caughtOn_50 : decode cX0_caughtOn 50 = .ok (.istore_n 3, 1) := by decide +kernel
theorem dX0_caughtOn_51 : decode cX0_caughtOn 51 = .ok (.iinc 4 1, 3) := by decide +kernel
theorem dX0_caughtOn_54 : decode cX0_caughtOn 54 = .ok (.goto (-49), 3) := by decide +kernel
theorem dX0_caughtOn_57 : decode cX0_caughtOn 57 = .ok (.iload_n 3, 1) := by decide +kernel
theorem dX0_caughtOn_58 : decode cX0_caughtOn 58 = .ok (.ireturn, 1) := by decide +kernel
theorem dX0_pullThing_0 : decode cX0_pullThing 0 = .ok (.aload_n 0, 1) := by decide +kernel
theorem dX0_pullThing_1 : decode cX0_pullThing 1 = .ok (.iload_n 1, 1) := by decide +kernel
theorem dX0_pullThing_2 : decode cX0_pullThing 2 = .ok (.iload_n 2, 1) := by decide +kernel
theorem dX0_pullThing_3 : decode cX0_pullThing 3 = .ok (.invokevirtual 79, 3) := by decide +kernel
theorem dX0_pullThing_6 : decode cX0_pullThing 6 = .ok (.istore_n 3, 1) := by decide +kernel
theorem dX0_pullThing_7 : decode cX0_pullThing 7 = .ok (.aload_n 0, 1) := by decide +kernel
theorem dX0_pullThing_8 : decode cX0_pullThing 8 = .ok (.iload_n 1, 1) := by decide +kernel
theorem dX0_pullThing_9 : decode cX0_pullThing 9 = .ok (.invokevirtual 73, 3) := by decide +kernel
theorem dX0_pullThing_12 : decode cX0_pullThing 12 = .ok (.ifCond .eq 17, 3) := by decide +kernel
theorem dX0_pullThing_15 : decode cX0_pullThing 15 = .ok (.aload_n 0, 1) := by decide +kernel
theorem dX0_pullThing_16 : decode cX0_pullThing 16 = .ok (.dup, 1) := by decide +kernel
theorem dX0_pullThing_17 : decode cX0_pullThing 17 = .ok (.getfield 35, 3) := by decide +kernel
theorem dX0_pullThing_20 : decode cX0_pullThing 20 = .ok (.iconst 1, 1) := by decide +kernel
theorem dX0_pullThing_21 : decode cX0_pullThing 21 = .ok (.iload_n 1, 1) := by decide +kernel
theorem dX0_pullThing_22 : decode cX0_pullThing 22 = .ok (.ishl, 1) := by decide +kernel
theorem dX0_pullThing_23 : decode cX0_pullThing 23 = .ok (.iconst (-1), 1) := by decide +kernel
theorem dX0_pullThing_24 : decode cX0_pullThing 24 = .ok (.ixor, 1) := by decide +kernel
theorem dX0_pullThing_25 : decode cX0_pullThing 25 = .ok (.iand, 1) := by decide +kernel
theorem dX0_pullThing_26 : decode cX0_pullThing 26 = .ok (.putfield 35, 3) := by decide +kernel
theorem dX0_pullThing_29 : decode cX0_pullThing 29 = .ok (.aload_n 0, 1) := by decide +kernel
theorem dX0_pullThing_30 : decode cX0_pullThing 30 = .ok (.iload_n 3, 1) := by decide +kernel
theorem dX0_pullThing_31 : decode cX0_pullThing 31 = .ok (.invokevirtual 82, 3) := by decide +kernel
theorem dX0_pullThing_34 : decode cX0_pullThing 34 = .ok (.iload_n 3, 1) := by decide +kernel
theorem dX0_pullThing_35 : decode cX0_pullThing 35 = .ok (.ireturn, 1) := by decide +kernel
theorem dX0_pullFloor_0 : decode cX0_pullFloor 0 = .ok (.aload_n 0, 1) := by decide +kernel
theorem dX0_pullFloor_1 : decode cX0_pullFloor 1 = .ok (.bipush (-9), 2) := by decide +kernel
theorem dX0_pullFloor_3 : decode cX0_pullFloor 3 = .ok (.iload_n 1, 1) := by decide +kernel
theorem dX0_pullFloor_4 : decode cX0_pullFloor 4 = .ok (.invokevirtual 79, 3) := by decide +kernel
theorem dX0_pullFloor_7 : decode cX0_pullFloor 7 = .ok (.istore_n 2, 1) := by decide +kernel
theorem dX0_pullFloor_8 : decode cX0_pullFloor 8 = .ok (.aload_n 0, 1) := by decide +kernel
theorem dX0_pullFloor_9 : decode cX0_pullFloor 9 = .ok (.iconst 0, 1) := by decide +kernel
theorem dX0_pullFloor_10 : decode cX0_pullFloor 10 = .ok (.putfield 9, 3) := by decide +kernel
theorem dX0_pullFloor_13 : decode cX0_pullFloor 13 = .ok (.aload_n 0, 1) := by decide +kernel
theorem dX0_pullFloor_14 : decode cX0_pullFloor 14 = .ok (.iload_n 2, 1) := by decide +kernel
theorem dX0_pullFloor_15 : decode cX0_pullFloor 15 = .ok (.invokevirtual 82, 3) := by decide +kernel
theorem dX0_pullFloor_18 : decode cX0_pullFloor 18 = .ok (.iload_n 2, 1) := by decide +kernel
theorem dX0_pullFloor_19 : decode cX0_pullFloor 19 = .ok (.ireturn, 1) := by decide +kernel
theorem dX0_layDown_0 : decode cX0_layDown 0 = .ok (.aload_n 0, 1) := by decide +kernel
theorem dX0_layDown_1 : decode cX0_layDown 1 = .ok (.dup, 1) := by decide +kernel
theorem dX0_layDown_2 : decode cX0_layDown 2 = .ok (.getfield 35, 3) := by decide +kernel
theorem dX0_layDown_5 : decode cX0_layDown 5 = .ok (.iload_n 1, 1) := by decide +kernel
theorem dX0_layDown_6 : decode cX0_layDown 6 = .ok (.iconst (-1), 1) := by decide +kernel
theorem dX0_layDown_7 : decode cX0_layDown 7 = .ok (.ixor, 1) := by decide +kernel
theorem dX0_layDown_8 : decode cX0_layDown 8 = .ok (.iand, 1) := by decide +kernel
theorem dX0_layDown_9 : decode cX0_layDown 9 = .ok (.putfield 35, 3) := by decide +kernel
theorem dX0_layDown_12 : decode cX0_layDown 12 = .ok (.aload_n 0, 1) := by decide +kernel
theorem dX0_layDown_13 : decode cX0_layDown 13 = .ok (.dup, 1) := by decide +kernel
theorem dX0_layDown_14 : decode cX0_layDown 14 = .ok (.getfield 38, 3) := by decide +kernel
theorem dX0_layDown_17 : decode cX0_layDown 17 = .ok (.iload_n 1, 1) := by decide +kernel
theorem dX0_layDown_18 : decode cX0_layDown 18 = .ok (.ior, 1) := by decide +kernel
theorem dX0_layDown_19 : decode cX0_layDown 19 = .ok (.putfield 38, 3) := by decide +kernel
theorem dX0_layDown_22 : decode cX0_layDown 22 = .ok (.return_, 1) := by decide +kernel
theorem dX0_hasTimeFor_0 : decode cX0_hasTimeFor 0 = .ok (.aload_n 0, 1) := by decide +kernel
theorem dX0_hasTimeFor_1 : decode cX0_hasTimeFor 1 = .ok (.getfield 32, 3) := by decide +kernel
theorem dX0_hasTimeFor_4 : decode cX0_hasTimeFor 4 = .ok (.sipush 999, 3) := by decide +kernel
theorem dX0_hasTimeFor_7 : decode cX0_hasTimeFor 7 = .ok (.iload_n 1, 1) := by decide +kernel
theorem dX0_hasTimeFor_8 : decode cX0_hasTimeFor 8 = .ok (.isub, 1) := by decide +kernel
theorem dX0_hasTimeFor_9 : decode cX0_hasTimeFor 9 = .ok (.if_icmp .gt 7, 3) := by decide +kernel
theorem dX0_hasTimeFor_12 : decode cX0_hasTimeFor 12 = .ok (.iconst 1, 1) := by decide +kernel
theorem dX0_hasTimeFor_13 : decode cX0_hasTimeFor 13 = .ok (.goto 4, 3) := by decide +kernel
theorem dX0_hasTimeFor_16 : decode cX0_hasTimeFor 16 = .ok (.iconst 0, 1) := by decide +kernel
theorem dX0_hasTimeFor_17 : decode cX0_hasTimeFor 17 = .ok (.ireturn, 1) := by decide +kernel
theorem dX0_passMinutes_0 : decode cX0_passMinutes 0 = .ok (.aload_n 0, 1) := by decide +kernel
theorem dX0_passMinutes_1 : decode cX0_passMinutes 1 = .ok (.dup, 1) := by decide +kernel
theorem dX0_passMinutes_2 : decode cX0_passMinutes 2 = .ok (.getfield 32, 3) := by decide +kernel
theorem dX0_passMinutes_5 : decode cX0_passMinutes 5 = .ok (.iload_n 1, 1) := by decide +kernel
theorem dX0_passMinutes_6 : decode cX0_passMinutes 6 = .ok (.iadd, 1) := by decide +kernel
theorem dX0_passMinutes_7 : decode cX0_passMinutes 7 = .ok (.putfield 32, 3) := by decide +kernel
theorem dX0_passMinutes_10 : decode cX0_passMinutes 10 = .ok (.iconst 0, 1) := by decide +kernel
theorem dX0_passMinutes_11 : decode cX0_passMinutes 11 = .ok (.istore_n 2, 1) := by decide +kernel
theorem dX0_passMinutes_12 : decode cX0_passMinutes 12 = .ok (.iload_n 2, 1) := by decide +kernel
theorem dX0_passMinutes_13 : decode cX0_passMinutes 13 = .ok (.iload_n 1, 1) := by decide +kernel
theorem dX0_passMinutes_14 : decode cX0_passMinutes 14 = .ok (.if_icmp .ge 18, 3) := by decide +kernel
theorem dX0_passMinutes_17 : decode cX0_passMinutes 17 = .ok (.aload_n 0, 1) := by decide +kernel
theorem dX0_passMinutes_18 : decode cX0_passMinutes 18 = .ok (.iconst 0, 1) := by decide +kernel
theorem dX0_passMinutes_19 : decode cX0_passMinutes 19 = .ok (.invokevirtual 86, 3) := by decide +kernel
theorem dX0_passMinutes_22 : decode cX0_passMinutes 22 = .ok (.ifCond .ne 4, 3) := by decide +kernel
theorem dX0_passMinutes_25 : decode cX0_passMinutes 25 = .ok (.return_, 1) := by decide +kernel
theorem dX0_passMinutes_26 : decode cX0_passMinutes 26 = .ok (.iinc 2 1, 3) := by decide +kernel
theorem dX0_passMinutes_29 : decode cX0_passMinutes 29 = .ok (.goto (-17), 3) := by decide +kernel
theorem dX0_passMinutes_32 : decode cX0_passMinutes 32 = .ok (.return_, 1) := by decide +kernel
theorem dX0_passMinute_0 : decode cX0_passMinute 0 = .ok (.iconst 0, 1) := by decide +kernel
theorem dX0_passMinute_1 : decode cX0_passMinute 1 = .ok (.istore_n 2, 1) := by decide +kernel
theorem dX0_passMinute_2 : decode cX0_passMinute 2 = .ok (.iconst 0, 1) := by decide +kernel
theorem dX0_passMinute_3 : decode cX0_passMinute 3 = .ok (.istore_n 3, 1) := by decide +kernel
theorem dX0_passMinute_4 : decode cX0_passMinute 4 = .ok (.iload_n 3, 1) := by decide +kernel
theorem dX0_passMinute_5 : decode cX0_passMinute 5 = .ok (.aload_n 0, 1) := by decide +kernel
theorem dX0_passMinute_6 : decode cX0_passMinute 6 = .ok (.getfield 28, 3) := by decide +kernel
theorem dX0_passMinute_9 : decode cX0_passMinute 9 = .ok (.if_icmp .ge 70, 3) := by decide +kernel
theorem dX0_passMinute_12 : decode cX0_passMinute 12 = .ok (.aload_n 0, 1) := by decide +kernel
theorem dX0_passMinute_13 : decode cX0_passMinute 13 = .ok (.iload_n 3, 1) := by decide +kernel
theorem dX0_passMinute_14 : decode cX0_passMinute 14 = .ok (.invokevirtual 47, 3) := by decide +kernel
theorem dX0_passMinute_17 : decode cX0_passMinute 17 = .ok (.ifCond .eq 56, 3) := by decide +kernel
theorem dX0_passMinute_20 : decode cX0_passMinute 20 = .ok (.aload_n 0, 1) := by decide +kernel
theorem dX0_passMinute_21 : decode cX0_passMinute 21 = .ok (.iload_n 3, 1) := by decide +kernel
theorem dX0_passMinute_22 : decode cX0_passMinute 22 = .ok (.invokevirtual 60, 3) := by decide +kernel
theorem dX0_passMinute_25 : decode cX0_passMinute 25 = .ok (.ifCond .eq 7, 3) := by decide +kernel
theorem dX0_passMinute_28 : decode cX0_passMinute 28 = .ok (.iconst 0, 1) := by decide +kernel
theorem dX0_passMinute_29 : decode cX0_passMinute 29 = .ok (.goto 13, 3) := by decide +kernel
theorem dX0_passMinute_32 : decode cX0_passMinute 32 = .ok (.aload_n 0, 1) := by decide +kernel
theorem dX0_passMinute_33 : decode cX0_passMinute 33 = .ok (.getfield 25, 3) := by decide +kernel
theorem dX0_passMinute_36 : decode cX0_passMinute 36 = .ok (.iload_n 3, 1) := by decide +kernel
theorem dX0_passMinute_37 : decode cX0_passMinute 37 = .ok (.iaload, 1) := by decide +kernel
theorem dX0_passMinute_38 : decode cX0_passMinute 38 = .ok (.iconst 1, 1) := by decide +kernel
theorem dX0_passMinute_39 : decode cX0_passMinute 39 = .ok (.iadd, 1) := by decide +kernel
theorem dX0_passMinute_40 : decode cX0_passMinute 40 = .ok (.iload_n 1, 1) := by decide +kernel
theorem dX0_passMinute_41 : decode cX0_passMinute 41 = .ok (.iadd, 1) := by decide +kernel
theorem dX0_passMinute_42 : decode cX0_passMinute 42 = .ok (.istore 4, 2) := by decide +kernel
theorem dX0_passMinute_44 : decode cX0_passMinute 44 = .ok (.iload_n 2, 1) := by decide +kernel
theorem dX0_passMinute_45 : decode cX0_passMinute 45 = .ok (.ifCond .ne 14, 3) := by decide +kernel
theorem dX0_passMinute_48 : decode cX0_passMinute 48 = .ok (.iload 4, 2) := by decide +kernel
theorem dX0_passMinute_50 : decode cX0_passMinute 50 = .ok (.aload_n 0, 1) := by decide +kernel
theorem dX0_passMinute_51 : decode cX0_passMinute 51 = .ok (.getfield 25, 3) := by decide +kernel
theorem dX0_passMinute_54 : decode cX0_passMinute 54 = .ok (.iload_n 3, 1) := by decide +kernel
theorem dX0_passMinute_55 : decode cX0_passMinute 55 = .ok (.iaload, 1) := by decide +kernel
theorem dX0_passMinute_56 : decode cX0_passMinute 56 = .ok (.if_icmp .eq 7, 3) := by decide +kernel
theorem dX0_passMinute_59 : decode cX0_passMinute 59 = .ok (.iconst 1, 1) := by decide +kernel
theorem dX0_passMinute_60 : decode cX0_passMinute 60 = .ok (.goto 4, 3) := by decide +kernel
theorem dX0_passMinute_63 : decode cX0_passMinute 63 = .ok (.iconst 0, 1) := by decide +kernel
theorem dX0_passMinute_64 : decode cX0_passMinute 64 = .ok (.istore_n 2, 1) := by decide +kernel
theorem dX0_passMinute_65 : decode cX0_passMinute 65 = .ok (.aload_n 0, 1) := by decide +kernel
theorem dX0_passMinute_66 : decode cX0_passMinute 66 = .ok (.getfield 25, 3) := by decide +kernel
theorem dX0_passMinute_69 : decode cX0_passMinute 69 = .ok (.iload_n 3, 1) := by decide +kernel
theorem dX0_passMinute_70 : decode cX0_passMinute 70 = .ok (.iload 4, 2) := by decide +kernel
theorem dX0_passMinute_72 : decode cX0_passMinute 72 = .ok (.iastore, 1) := by decide +kernel
theorem dX0_passMinute_73 : decode cX0_passMinute 73 = .ok (.iinc 3 1, 3) := by decide +kernel
theorem dX0_passMinute_76 : decode cX0_passMinute 76 = .ok (.goto (-72), 3) := by decide +kernel
theorem dX0_passMinute_79 : decode cX0_passMinute 79 = .ok (.iconst 0, 1) := by decide +kernel
theorem dX0_passMinute_80 : decode cX0_passMinute 80 = .ok (.istore_n 3, 1) := by decide +kernel
theorem dX0_passMinute_81 : decode cX0_passMinute 81 = .ok (.iconst 0, 1) := by decide +kernel
theorem dX0_passMinute_82 : decode cX0_passMinute 82 = .ok (.istore 4, 2) := by decide +kernel
theorem dX0_passMinute_84 : decode cX0_passMinute 84 = .ok (.iload 4, 2) := by decide +kernel
theorem dX0_passMinute_86 : decode cX0_passMinute 86 = .ok (.aload_n 0, 1) := by decide +kernel
theorem dX0_passMinute_87 : decode cX0_passMinute 87 = .ok (.getfield 28, 3) := by decide +kernel
theorem dX0_passMinute_90 : decode cX0_passMinute 90 = .ok (.if_icmp .ge 41, 3) := by decide +kernel
theorem dX0_passMinute_93 : decode cX0_passMinute 93 = .ok (.aload_n 0, 1) := by decide +kernel
theorem dX0_passMinute_94 : decode cX0_passMinute 94 = .ok (.iload 4, 2) := by decide +kernel
theorem dX0_passMinute_96 : decode cX0_passMinute 96 = .ok (.invokevirtual 47, 3) := by decide +kernel
theorem dX0_passMinute_99 : decode cX0_passMinute 99 = .ok (.ifCond .eq 26, 3) := by decide +kernel
theorem dX0_passMinute_102 : decode cX0_passMinute 102 = .ok (.aload_n 0, 1) := by decide +kernel
theorem dX0_passMinute_103 : decode cX0_passMinute 103 = .ok (.getfield 25, 3) := by decide +kernel
theorem dX0_passMinute_106 : decode cX0_passMinute 106 = .ok (.iload 4, 2) := by decide +kernel
theorem dX0_passMinute_108 : decode cX0_passMinute 108 = .ok (.iaload, 1) := by decide +kernel
theorem dX0_passMinute_109 : decode cX0_passMinute 109 = .ok (.aload_n 0, 1) := by decide +kernel
theorem dX0_passMinute_110 : decode cX0_passMinute 110 = .ok (.iload 4, 2) := by decide +kernel
theorem dX0_passMinute_112 : decode cX0_passMinute 112 = .ok (.invokevirtual 89, 3) := by decide +kernel
theorem dX0_passMinute_115 : decode cX0_passMinute 115 = .ok (.if_icmp .le 10, 3) := by decide +kernel
theorem dX0_passMinute_118 : decode cX0_passMinute 118 = .ok (.iload_n 3, 1) := by decide +kernel
theorem dX0_passMinute_119 : decode cX0_passMinute 119 = .ok (.iconst 1, 1) := by decide +kernel
theorem dX0_passMinute_120 : decode cX0_passMinute 120 = .ok (.iload 4, 2) := by decide +kernel
theorem dX0_passMinute_122 : decode cX0_passMinute 122 = .ok (.ishl, 1) := by decide +kernel
theorem dX0_passMinute_123 : decode cX0_passMinute 123 = .ok (.ior, 1) := by decide +kernel
theorem dX0_passMinute_124 : decode cX0_passMinute 124 = .ok (.istore_n 3, 1) := by decide +kernel
theorem dX0_passMinute_125 : decode cX0_passMinute 125 = .ok (.iinc 4 1, 3) := by decide +kernel
theorem dX0_passMinute_128 : decode cX0_passMinute 128 = .ok (.goto (-44), 3) := by decide +kernel
theorem dX0_passMinute_131 : decode cX0_passMinute 131 = .ok (.aload_n 0, 1) := by decide +kernel
theorem dX0_passMinute_132 : decode cX0_passMinute 132 = .ok (.iload_n 3, 1) := by decide +kernel
theorem dX0_passMinute_133 : decode cX0_passMinute 133 = .ok (.invokevirtual 82, 3) := by decide +kernel
theorem dX0_passMinute_136 : decode cX0_passMinute 136 = .ok (.iload_n 2, 1) := by decide +kernel
theorem dX0_passMinute_137 : decode cX0_passMinute 137 = .ok (.ireturn, 1) := by decide +kernel
theorem dX0_firstToSetUp_0 : decode cX0_firstToSetUp 0 = .ok (.iconst 0, 1) := by decide +kernel
theorem dX0_firstToSetUp_1 : decode cX0_firstToSetUp 1 = .ok (.istore_n 1, 1) := by decide +kernel
theorem dX0_firstToSetUp_2 : decode cX0_firstToSetUp 2 = .ok (.iload_n 1, 1) := by decide +kernel
theorem dX0_firstToSetUp_3 : decode cX0_firstToSetUp 3 = .ok (.aload_n 0, 1) := by decide +kernel
theorem dX0_firstToSetUp_4 : decode cX0_firstToSetUp 4 = .ok (.getfield 28, 3) := by decide +kernel
theorem dX0_firstToSetUp_7 : decode cX0_firstToSetUp 7 = .ok (.if_icmp .ge 27, 3) := by decide +kernel
theorem dX0_firstToSetUp_10 : decode cX0_firstToSetUp 10 = .ok (.aload_n 0, 1) := by decide +kernel
theorem dX0_firstToSetUp_11 : decode cX0_firstToSetUp 11 = .ok (.iload_n 1, 1) := by decide +kernel
theorem dX0_firstToSetUp_12 : decode cX0_firstToSetUp 12 = .ok (.invokevirtual 51, 3) := by decide +kernel
theorem dX0_firstToSetUp_15 : decode cX0_firstToSetUp 15 = .ok (.ifCond .eq 13, 3) := by decide +kernel
theorem dX0_firstToSetUp_18 : decode cX0_firstToSetUp 18 = .ok (.aload_n 0, 1) := by decide +kernel
theorem dX0_firstToSetUp_19 : decode cX0_firstToSetUp 19 = .ok (.iload_n 1, 1) := by decide +kernel
theorem dX0_firstToSetUp_20 : decode cX0_firstToSetUp 20 = .ok (.invokevirtual 60, 3) := by decide +kernel
theorem dX0_firstToSetUp_23 : decode cX0_firstToSetUp 23 = .ok (.ifCond .eq 5, 3) := by decide +kernel
theorem dX0_firstToSetUp_26 : decode cX0_firstToSetUp 26 = .ok (.iload_n 1, 1) := by decide +kernel
theorem dX0_firstToSetUp_27 : decode cX0_firstToSetUp 27 = .ok (.ireturn, 1) := by decide +kernel
theorem dX0_firstToSetUp_28 : decode cX0_firstToSetUp 28 = .ok (.iinc 1 1, 3) := by decide +kernel
theorem dX0_firstToSetUp_31 : decode cX0_firstToSetUp 31 = .ok (.goto (-29), 3) := by decide +kernel
theorem dX0_firstToSetUp_34 : decode cX0_firstToSetUp 34 = .ok (.bipush (-9), 2) := by decide +kernel
theorem dX0_firstToSetUp_36 : decode cX0_firstToSetUp 36 = .ok (.ireturn, 1) := by decide +kernel
theorem dX0_heightOf_0 : decode cX0_heightOf 0 = .ok (.iconst 0, 1) := by decide +kernel
theorem dX0_heightOf_1 : decode cX0_heightOf 1 = .ok (.istore_n 2, 1) := by decide +kernel
theorem dX0_heightOf_2 : decode cX0_heightOf 2 = .ok (.aload_n 0, 1) := by decide +kernel
theorem dX0_heightOf_3 : decode cX0_heightOf 3 = .ok (.iload_n 1, 1) := by decide +kernel
theorem dX0_heightOf_4 : decode cX0_heightOf 4 = .ok (.invokevirtual 73, 3) := by decide +kernel
theorem dX0_heightOf_7 : decode cX0_heightOf 7 = .ok (.ifCond .eq 12, 3) := by decide +kernel
theorem dX0_heightOf_10 : decode cX0_heightOf 10 = .ok (.aload_n 0, 1) := by decide +kernel
theorem dX0_heightOf_11 : decode cX0_heightOf 11 = .ok (.getfield 22, 3) := by decide +kernel
theorem dX0_heightOf_14 : decode cX0_heightOf 14 = .ok (.iload_n 1, 1) := by decide +kernel
theorem dX0_heightOf_15 : decode cX0_heightOf 15 = .ok (.iaload, 1) := by decide +kernel
theorem dX0_heightOf_16 : decode cX0_heightOf 16 = .ok (.goto 5, 3) := by decide +kernel
theorem dX0_heightOf_19 : decode cX0_heightOf 19 = .ok (.bipush (-9), 2) := by decide +kernel
theorem dX0_heightOf_21 : decode cX0_heightOf 21 = .ok (.istore_n 3, 1) := by decide +kernel
theorem dX0_heightOf_22 : decode cX0_heightOf 22 = .ok (.iconst 0, 1) := by decide +kernel
theorem dX0_heightOf_23 : decode cX0_heightOf 23 = .ok (.istore 4, 2) := by decide +kernel
theorem dX0_heightOf_25 : decode cX0_heightOf 25 = .ok (.iload 4, 2) := by decide +kernel
theorem dX0_heightOf_27 : decode cX0_heightOf 27 = .ok (.bipush 10, 2) := by decide +kernel
theorem dX0_heightOf_29 : decode cX0_heightOf 29 = .ok (.if_icmp .ge 27, 3) := by decide +kernel
theorem dX0_heightOf_32 : decode cX0_heightOf 32 = .ok (.aload_n 0, 1) := by decide +kernel
theorem dX0_heightOf_33 : decode cX0_heightOf 33 = .ok (.iload_n 3, 1) := by decide +kernel
theorem dX0_heightOf_34 : decode cX0_heightOf 34 = .ok (.invokevirtual 73, 3) := by decide +kernel
theorem dX0_heightOf_37 : decode cX0_heightOf 37 = .ok (.ifCond .eq 19, 3) := by decide +kernel
theorem dX0_heightOf_40 : decode cX0_heightOf 40 = .ok (.iinc 2 1, 3) := by decide +kernel
theorem dX0_heightOf_43 : decode cX0_heightOf 43 = .ok (.aload_n 0, 1) := by decide +kernel
theorem dX0_heightOf_44 : decode cX0_heightOf 44 = .ok (.getfield 22, 3) := by decide +kernel
theorem dX0_heightOf_47 : decode cX0_heightOf 47 = .ok (.iload_n 3, 1) := by decide +kernel
theorem dX0_heightOf_48 : decode cX0_heightOf 48 = .ok (.iaload, 1) := by decide +kernel
theorem dX0_heightOf_49 : decode cX0_heightOf 49 = .ok (.istore_n 3, 1) := by decide +kernel
theorem dX0_heightOf_50 : decode cX0_heightOf 50 = .ok (.iinc 4 1, 3) := by decide +kernel
theorem dX0_heightOf_53 : decode cX0_heightOf 53 = .ok (.goto (-28), 3) := by decide +kernel
theorem dX0_heightOf_56 : decode cX0_heightOf 56 = .ok (.iload_n 2, 1) := by decide +kernel
theorem dX0_heightOf_57 : decode cX0_heightOf 57 = .ok (.ireturn, 1) := by decide +kernel
theorem dX0_bottomOf_0 : decode cX0_bottomOf 0 = .ok (.iload_n 1, 1) := by decide +kernel
theorem dX0_bottomOf_1 : decode cX0_bottomOf 1 = .ok (.istore_n 2, 1) := by decide +kernel
theorem dX0_bottomOf_2 : decode cX0_bottomOf 2 = .ok (.iconst 0, 1) := by decide +kernel
theorem dX0_bottomOf_3 : decode cX0_bottomOf 3 = .ok (.istore_n 3, 1) := by decide +kernel
theorem dX0_bottomOf_4 : decode cX0_bottomOf 4 = .ok (.iload_n 3, 1) := by decide +kernel
theorem dX0_bottomOf_5 : decode cX0_bottomOf 5 = .ok (.bipush 10, 2) := by decide +kernel
theorem dX0_bottomOf_7 : decode cX0_bottomOf 7 = .ok (.if_icmp .ge 37, 3) := by decide +kernel
theorem dX0_bottomOf_10 : decode cX0_bottomOf 10 = .ok (.aload_n 0, 1) := by decide +kernel
theorem dX0_bottomOf_11 : decode cX0_bottomOf 11 = .ok (.iload_n 2, 1) := by decide +kernel
theorem dX0_bottomOf_12 : decode cX0_bottomOf 12 = .ok (.invokevirtual 73, 3) := by decide +kernel
theorem dX0_bottomOf_15 : decode cX0_bottomOf 15 = .ok (.ifCond .eq 29, 3) := by decide +kernel
theorem dX0_bottomOf_18 : decode cX0_bottomOf 18 = .ok (.aload_n 0, 1) := by decide +kernel
theorem dX0_bottomOf_19 : decode cX0_bottomOf 19 = .ok (.aload_n 0, 1) := by decide +kernel
theorem dX0_bottomOf_20 : decode cX0_bottomOf 20 = .ok (.getfield 22, 3) := by decide +kernel
theorem dX0_bottomOf_23 : decode cX0_bottomOf 23 = .ok (.iload_n 2, 1) := by decide +kernel
theorem dX0_bottomOf_24 : decode cX0_bottomOf 24 = .ok (.iaload, 1) := by decide +kernel
theorem dX0_bottomOf_25 : decode cX0_bottomOf 25 = .ok (.invokevirtual 73, 3) := by decide +kernel
theorem dX0_bottomOf_28 : decode cX0_bottomOf 28 = .ok (.ifCond .eq 16, 3) := by decide +kernel
theorem dX0_bottomOf_31 : decode cX0_bottomOf 31 = .ok (.aload_n 0, 1) := by decide +kernel
theorem dX0_bottomOf_32 : decode cX0_bottomOf 32 = .ok (.getfield 22, 3) := by decide +kernel
theorem dX0_bottomOf_35 : decode cX0_bottomOf 35 = .ok (.iload_n 2, 1) := by decide +kernel
theorem dX0_bottomOf_36 : decode cX0_bottomOf 36 = .ok (.iaload, 1) := by decide +kernel
theorem dX0_bottomOf_37 : decode cX0_bottomOf 37 = .ok (.istore_n 2, 1) := by decide +kernel
theorem dX0_bottomOf_38 : decode cX0_bottomOf 38 = .ok (.iinc 3 1, 3) := by decide +kernel
theorem dX0_bottomOf_41 : decode cX0_bottomOf 41 = .ok (.goto (-37), 3) := by decide +kernel
theorem dX0_bottomOf_44 : decode cX0_bottomOf 44 = .ok (.iload_n 2, 1) := by decide +kernel
theorem dX0_bottomOf_45 : decode cX0_bottomOf 45 = .ok (.ireturn, 1) := by decide +kernel
theorem dX0_allAbove_0 : decode cX0_allAbove 0 = .ok (.iconst 0, 1) := by decide +kernel
theorem dX0_allAbove_1 : decode cX0_allAbove 1 = .ok (.istore_n 2, 1) := by decide +kernel
theorem dX0_allAbove_2 : decode cX0_allAbove 2 = .ok (.iconst 0, 1) := by decide +kernel
theorem dX0_allAbove_3 : decode cX0_allAbove 3 = .ok (.istore_n 3, 1) := by decide +kernel
theorem dX0_allAbove_4 : decode cX0_allAbove 4 = .ok (.iload_n 3, 1) := by decide +kernel
theorem dX0_allAbove_5 : decode cX0_allAbove 5 = .ok (.aload_n 0, 1) := by decide +kernel
theorem dX0_allAbove_6 : decode cX0_allAbove 6 = .ok (.getfield 28, 3) := by decide +kernel
theorem dX0_allAbove_9 : decode cX0_allAbove 9 = .ok (.if_icmp .ge 75, 3) := by decide +kernel
theorem dX0_allAbove_12 : decode cX0_allAbove 12 = .ok (.aload_n 0, 1) := by decide +kernel
theorem dX0_allAbove_13 : decode cX0_allAbove 13 = .ok (.getfield 22, 3) := by decide +kernel
theorem dX0_allAbove_16 : decode cX0_allAbove 16 = .ok (.iload_n 3, 1) := by decide +kernel
theorem dX0_allAbove_17 : decode cX0_allAbove 17 = .ok (.iaload, 1) := by decide +kernel
theorem dX0_allAbove_18 : decode cX0_allAbove 18 = .ok (.iload_n 1, 1) := by decide +kernel
theorem dX0_allAbove_19 : decode cX0_allAbove 19 = .ok (.if_icmp .ne 7, 3) := by decide +kernel
theorem dX0_allAbove_22 : decode cX0_allAbove 22 = .ok (.iconst 1, 1) := by decide +kernel
theorem dX0_allAbove_23 : decode cX0_allAbove 23 = .ok (.goto 4, 3) := by decide +kernel
theorem dX0_allAbove_26 : decode cX0_allAbove 26 = .ok (.iconst 0, 1) := by decide +kernel
theorem dX0_allAbove_27 : decode cX0_allAbove 27 = .ok (.istore 4, 2) := by decide +kernel
theorem dX0_allAbove_29 : decode cX0_allAbove 29 = .ok (.aload_n 0, 1) := by decide +kernel
theorem dX0_allAbove_30 : decode cX0_allAbove 30 = .ok (.aload_n 0, 1) := by decide +kernel
theorem dX0_allAbove_31 : decode cX0_allAbove 31 = .ok (.getfield 22, 3) := by decide +kernel
theorem dX0_allAbove_34 : decode cX0_allAbove 34 = .ok (.iload_n 3, 1) := by decide +kernel
theorem dX0_allAbove_35 : decode cX0_allAbove 35 = .ok (.iaload, 1) := by decide +kernel
theorem dX0_allAbove_36 : decode cX0_allAbove 36 = .ok (.invokevirtual 73, 3) := by decide +kernel
theorem dX0_allAbove_39 : decode cX0_allAbove 39 = .ok (.ifCond .eq 20, 3) := by decide +kernel
theorem dX0_allAbove_42 : decode cX0_allAbove 42 = .ok (.iload_n 2, 1) := by decide +kernel
theorem dX0_allAbove_43 : decode cX0_allAbove 43 = .ok (.iconst 1, 1) := by decide +kernel
theorem dX0_allAbove_44 : decode cX0_allAbove 44 = .ok (.aload_n 0, 1) := by decide +kernel
theorem dX0_allAbove_45 : decode cX0_allAbove 45 = .ok (.getfield 22, 3) := by decide +kernel
theorem dX0_allAbove_48 : decode cX0_allAbove 48 = .ok (.iload_n 3, 1) := by decide +kernel
theorem dX0_allAbove_49 : decode cX0_allAbove 49 = .ok (.iaload, 1) := by decide +kernel
theorem dX0_allAbove_50 : decode cX0_allAbove 50 = .ok (.ishl, 1) := by decide +kernel
theorem dX0_allAbove_51 : decode cX0_allAbove 51 = .ok (.iand, 1) := by decide +kernel
theorem dX0_allAbove_52 : decode cX0_allAbove 52 = .ok (.ifCond .eq 7, 3) := by decide +kernel
theorem dX0_allAbove_55 : decode cX0_allAbove 55 = .ok (.iconst 1, 1) := by decide +kernel
theorem dX0_allAbove_56 : decode cX0_allAbove 56 = .ok (.goto 4, 3) := by decide +kernel
theorem dX0_allAbove_59 : decode cX0_allAbove 59 = .ok (.iconst 0, 1) := by decide +kernel
theorem dX0_allAbove_60 : decode cX0_allAbove 60 = .ok (.istore 5, 2) := by decide +kernel
theorem dX0_allAbove_62 : decode cX0_allAbove 62 = .ok (.iload 4, 2) := by decide +kernel
theorem dX0_allAbove_64 : decode cX0_allAbove 64 = .ok (.ifCond .ne 8, 3) := by decide +kernel
theorem dX0_allAbove_67 : decode cX0_allAbove 67 = .ok (.iload 5, 2) := by decide +kernel
theorem dX0_allAbove_69 : decode cX0_allAbove 69 = .ok (.ifCond .eq 9, 3) := by decide +kernel
theorem dX0_allAbove_72 : decode cX0_allAbove 72 = .ok (.iload_n 2, 1) := by decide +kernel
theorem dX0_allAbove_73 : decode cX0_allAbove 73 = .ok (.iconst 1, 1) := by decide +kernel
theorem dX0_allAbove_74 : decode cX0_allAbove 74 = .ok (.iload_n 3, 1) := by decide +kernel
theorem dX0_allAbove_75 : decode cX0_allAbove 75 = .ok (.ishl, 1) := by decide +kernel
theorem dX0_allAbove_76 : decode cX0_allAbove 76 = .ok (.ior, 1) := by decide +kernel
theorem dX0_allAbove_77 : decode cX0_allAbove 77 = .ok (.istore_n 2, 1) := by decide +kernel
theorem dX0_allAbove_78 : decode cX0_allAbove 78 = .ok (.iinc 3 1, 3) := by decide +kernel
theorem dX0_allAbove_81 : decode cX0_allAbove 81 = .ok (.goto (-77), 3) := by decide +kernel
theorem dX0_allAbove_84 : decode cX0_allAbove 84 = .ok (.iload_n 2, 1) := by decide +kernel
theorem dX0_allAbove_85 : decode cX0_allAbove 85 = .ok (.ireturn, 1) := by decide +kernel
theorem dJ6_bitCount_0f7a4_0 : decode cJ6_bitCount_0f7a4 0 = .ok (.iload_n 0, 1) := by decide +kernel
theorem dJ6_bitCount_0f7a4_1 : decode cJ6_bitCount_0f7a4 1 = .ok (.iload_n 0, 1) := by decide +kernel
theorem dJ6_bitCount_0f7a4_2 : decode cJ6_bitCount_0f7a4 2 = .ok (.iconst 1, 1) := by decide +kernel
theorem dJ6_bitCount_0f7a4_3 : decode cJ6_bitCount_0f7a4 3 = .ok (.iushr, 1) := by decide +kernel
theorem dJ6_bitCount_0f7a4_4 : decode cJ6_bitCount_0f7a4 4 = .ok (.ldc_w 265, 3) := by decide +kernel
theorem dJ6_bitCount_0f7a4_7 : decode cJ6_bitCount_0f7a4 7 = .ok (.iand, 1) := by decide +kernel
theorem dJ6_bitCount_0f7a4_8 : decode cJ6_bitCount_0f7a4 8 = .ok (.isub, 1) := by decide +kernel
theorem dJ6_bitCount_0f7a4_9 : decode cJ6_bitCount_0f7a4 9 = .ok (.istore_n 0, 1) := by decide +kernel
theorem dJ6_bitCount_0f7a4_10 : decode cJ6_bitCount_0f7a4 10 = .ok (.iload_n 0, 1) := by decide +kernel
theorem dJ6_bitCount_0f7a4_11 : decode cJ6_bitCount_0f7a4 11 = .ok (.ldc_w 266, 3) := by decide +kernel
theorem dJ6_bitCount_0f7a4_14 : decode cJ6_bitCount_0f7a4 14 = .ok (.iand, 1) := by decide +kernel
theorem dJ6_bitCount_0f7a4_15 : decode cJ6_bitCount_0f7a4 15 = .ok (.iload_n 0, 1) := by decide +kernel
theorem dJ6_bitCount_0f7a4_16 : decode cJ6_bitCount_0f7a4 16 = .ok (.iconst 2, 1) := by decide +kernel
theorem dJ6_bitCount_0f7a4_17 : decode cJ6_bitCount_0f7a4 17 = .ok (.iushr, 1) := by decide +kernel
theorem dJ6_bitCount_0f7a4_18 : decode cJ6_bitCount_0f7a4 18 = .ok (.ldc_w 266, 3) := by decide +kernel
theorem dJ6_bitCount_0f7a4_21 : decode cJ6_bitCount_0f7a4 21 = .ok (.iand, 1) := by decide +kernel
theorem dJ6_bitCount_0f7a4_22 : decode cJ6_bitCount_0f7a4 22 = .ok (.iadd, 1) := by decide +kernel
theorem dJ6_bitCount_0f7a4_23 : decode cJ6_bitCount_0f7a4 23 = .ok (.istore_n 0, 1) := by decide +kernel
theorem dJ6_bitCount_0f7a4_24 : decode cJ6_bitCount_0f7a4 24 = .ok (.iload_n 0, 1) := by decide +kernel
theorem dJ6_bitCount_0f7a4_25 : decode cJ6_bitCount_0f7a4 25 = .ok (.iload_n 0, 1) := by decide +kernel
theorem dJ6_bitCount_0f7a4_26 : decode cJ6_bitCount_0f7a4 26 = .ok (.iconst 4, 1) := by decide +kernel
theorem dJ6_bitCount_0f7a4_27 : decode cJ6_bitCount_0f7a4 27 = .ok (.iushr, 1) := by decide +kernel
theorem dJ6_bitCount_0f7a4_28 : decode cJ6_bitCount_0f7a4 28 = .ok (.iadd, 1) := by decide +kernel
theorem dJ6_bitCount_0f7a4_29 : decode cJ6_bitCount_0f7a4 29 = .ok (.ldc_w 267, 3) := by decide +kernel
theorem dJ6_bitCount_0f7a4_32 : decode cJ6_bitCount_0f7a4 32 = .ok (.iand, 1) := by decide +kernel
theorem dJ6_bitCount_0f7a4_33 : decode cJ6_bitCount_0f7a4 33 = .ok (.istore_n 0, 1) := by decide +kernel
theorem dJ6_bitCount_0f7a4_34 : decode cJ6_bitCount_0f7a4 34 = .ok (.iload_n 0, 1) := by decide +kernel
theorem dJ6_bitCount_0f7a4_35 : decode cJ6_bitCount_0f7a4 35 = .ok (.iload_n 0, 1) := by decide +kernel
theorem dJ6_bitCount_0f7a4_36 : decode cJ6_bitCount_0f7a4 36 = .ok (.bipush 8, 2) := by decide +kernel
theorem dJ6_bitCount_0f7a4_38 : decode cJ6_bitCount_0f7a4 38 = .ok (.iushr, 1) := by decide +kernel
theorem dJ6_bitCount_0f7a4_39 : decode cJ6_bitCount_0f7a4 39 = .ok (.iadd, 1) := by decide +kernel
theorem dJ6_bitCount_0f7a4_40 : decode cJ6_bitCount_0f7a4 40 = .ok (.istore_n 0, 1) := by decide +kernel
theorem dJ6_bitCount_0f7a4_41 : decode cJ6_bitCount_0f7a4 41 = .ok (.iload_n 0, 1) := by decide +kernel
theorem dJ6_bitCount_0f7a4_42 : decode cJ6_bitCount_0f7a4 42 = .ok (.iload_n 0, 1) := by decide +kernel
theorem dJ6_bitCount_0f7a4_43 : decode cJ6_bitCount_0f7a4 43 = .ok (.bipush 16, 2) := by decide +kernel
theorem dJ6_bitCount_0f7a4_45 : decode cJ6_bitCount_0f7a4 45 = .ok (.iushr, 1) := by decide +kernel
theorem dJ6_bitCount_0f7a4_46 : decode cJ6_bitCount_0f7a4 46 = .ok (.iadd, 1) := by decide +kernel
theorem dJ6_bitCount_0f7a4_47 : decode cJ6_bitCount_0f7a4 47 = .ok (.istore_n 0, 1) := by decide +kernel
theorem dJ6_bitCount_0f7a4_48 : decode cJ6_bitCount_0f7a4 48 = .ok (.iload_n 0, 1) := by decide +kernel
theorem dJ6_bitCount_0f7a4_49 : decode cJ6_bitCount_0f7a4 49 = .ok (.bipush 63, 2) := by decide +kernel
theorem dJ6_bitCount_0f7a4_51 : decode cJ6_bitCount_0f7a4 51 = .ok (.iand, 1) := by decide +kernel
theorem dJ6_bitCount_0f7a4_52 : decode cJ6_bitCount_0f7a4 52 = .ok (.ireturn, 1) := by decide +kernel
