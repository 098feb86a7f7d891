theorem dX4_init_0 : decode cX4_init 0 = .ok (.aload_n 0, 1) := by decide +kernel
theorem dX4_init_1 : decode cX4_init 1 = .ok (.invokespecial 1, 3) := by decide +kernel
theorem dX4_init_4 : decode cX4_init 4 = .ok (.aload_n 0, 1) := by decide +kernel
theorem dX4_init_5 : decode cX4_init 5 = .ok (.sipush 854, 3) := by decide +kernel
theorem dX4_init_8 : decode cX4_init 8 = .ok (.newarray .int, 2) := by decide +kernel
theorem dX4_init_10 : decode cX4_init 10 = .ok (.putfield 7, 3) := by decide +kernel
theorem dX4_init_13 : decode cX4_init 13 = .ok (.aload_n 0, 1) := by decide +kernel
theorem dX4_init_14 : decode cX4_init 14 = .ok (.bipush 60, 2) := by decide +kernel
theorem dX4_init_16 : decode cX4_init 16 = .ok (.newarray .int, 2) := by decide +kernel
theorem dX4_init_18 : decode cX4_init 18 = .ok (.putfield 13, 3) := by decide +kernel
theorem dX4_init_21 : decode cX4_init 21 = .ok (.aload_n 0, 1) := by decide +kernel
theorem dX4_init_22 : decode cX4_init 22 = .ok (.getfield 7, 3) := by decide +kernel
theorem dX4_init_25 : decode cX4_init 25 = .ok (.iconst 2, 1) := by decide +kernel
theorem dX4_init_26 : decode cX4_init 26 = .ok (.iconst (-1), 1) := by decide +kernel
theorem dX4_init_27 : decode cX4_init 27 = .ok (.iastore, 1) := by decide +kernel
theorem dX4_init_28 : decode cX4_init 28 = .ok (.iconst 0, 1) := by decide +kernel
theorem dX4_init_29 : decode cX4_init 29 = .ok (.istore_n 1, 1) := by decide +kernel
theorem dX4_init_30 : decode cX4_init 30 = .ok (.iload_n 1, 1) := by decide +kernel
theorem dX4_init_31 : decode cX4_init 31 = .ok (.bipush 8, 2) := by decide +kernel
theorem dX4_init_33 : decode cX4_init 33 = .ok (.if_icmp .ge 35, 3) := by decide +kernel
theorem dX4_init_36 : decode cX4_init 36 = .ok (.aload_n 0, 1) := by decide +kernel
theorem dX4_init_37 : decode cX4_init 37 = .ok (.getfield 7, 3) := by decide +kernel
theorem dX4_init_40 : decode cX4_init 40 = .ok (.bipush 8, 2) := by decide +kernel
theorem dX4_init_42 : decode cX4_init 42 = .ok (.iload_n 1, 1) := by decide +kernel
theorem dX4_init_43 : decode cX4_init 43 = .ok (.iadd, 1) := by decide +kernel
theorem dX4_init_44 : decode cX4_init 44 = .ok (.iconst 1, 1) := by decide +kernel
theorem dX4_init_45 : decode cX4_init 45 = .ok (.iastore, 1) := by decide +kernel
theorem dX4_init_46 : decode cX4_init 46 = .ok (.aload_n 0, 1) := by decide +kernel
theorem dX4_init_47 : decode cX4_init 47 = .ok (.getfield 7, 3) := by decide +kernel
theorem dX4_init_50 : decode cX4_init 50 = .ok (.bipush 16, 2) := by decide +kernel
theorem dX4_init_52 : decode cX4_init 52 = .ok (.iload_n 1, 1) := by decide +kernel
theorem dX4_init_53 : decode cX4_init 53 = .ok (.iadd, 1) := by decide +kernel
theorem dX4_init_54 : decode cX4_init 54 = .ok (.sipush 1111, 3) := by decide +kernel
theorem dX4_init_57 : decode cX4_init 57 = .ok (.iload_n 1, 1) := by decide +kernel
theorem dX4_init_58 : decode cX4_init 58 = .ok (.iconst 1, 1) := by decide +kernel
theorem dX4_init_59 : decode cX4_init 59 = .ok (.iadd, 1) := by decide +kernel
theorem dX4_init_60 : decode cX4_init 60 = .ok (.imul, 1) := by decide +kernel
theorem dX4_init_61 : decode cX4_init 61 = .ok (.iastore, 1) := by decide +kernel
theorem dX4_init_62 : decode cX4_init 62 = .ok (.iinc 1 1, 3) := by decide +kernel
theorem dX4_init_65 : decode cX4_init 65 = .ok (.goto (-35), 3) := by decide +kernel
theorem dX4_init_68 : decode cX4_init 68 = .ok (.iconst 0, 1) := by decide +kernel
theorem dX4_init_69 : decode cX4_init 69 = .ok (.istore_n 1, 1) := by decide +kernel
theorem dX4_init_70 : decode cX4_init 70 = .ok (.iload_n 1, 1) := by decide +kernel
theorem dX4_init_71 : decode cX4_init 71 = .ok (.iconst 4, 1) := by decide +kernel
theorem dX4_init_72 : decode cX4_init 72 = .ok (.if_icmp .ge 29, 3) := by decide +kernel
theorem dX4_init_75 : decode cX4_init 75 = .ok (.aload_n 0, 1) := by decide +kernel
theorem dX4_init_76 : decode cX4_init 76 = .ok (.getfield 7, 3) := by decide +kernel
theorem dX4_init_79 : decode cX4_init 79 = .ok (.bipush 114, 2) := by decide +kernel
theorem dX4_init_81 : decode cX4_init 81 = .ok (.iload_n 1, 1) := by decide +kernel
theorem dX4_init_82 : decode cX4_init 82 = .ok (.iadd, 1) := by decide +kernel
theorem dX4_init_83 : decode cX4_init 83 = .ok (.iconst (-1), 1) := by decide +kernel
theorem dX4_init_84 : decode cX4_init 84 = .ok (.iastore, 1) := by decide +kernel
theorem dX4_init_85 : decode cX4_init 85 = .ok (.aload_n 0, 1) := by decide +kernel
theorem dX4_init_86 : decode cX4_init 86 = .ok (.getfield 7, 3) := by decide +kernel
theorem dX4_init_89 : decode cX4_init 89 = .ok (.bipush 118, 2) := by decide +kernel
theorem dX4_init_91 : decode cX4_init 91 = .ok (.iload_n 1, 1) := by decide +kernel
theorem dX4_init_92 : decode cX4_init 92 = .ok (.iadd, 1) := by decide +kernel
theorem dX4_init_93 : decode cX4_init 93 = .ok (.iconst (-1), 1) := by decide +kernel
theorem dX4_init_94 : decode cX4_init 94 = .ok (.iastore, 1) := by decide +kernel
theorem dX4_init_95 : decode cX4_init 95 = .ok (.iinc 1 1, 3) := by decide +kernel
theorem dX4_init_98 : decode cX4_init 98 = .ok (.goto (-28), 3) := by decide +kernel
theorem dX4_init_101 : decode cX4_init 101 = .ok (.return_, 1) := by decide +kernel
theorem dX4_thrown_0 : decode cX4_thrown 0 = .ok (.aload_n 0, 1) := by decide +kernel
theorem dX4_thrown_1 : decode cX4_thrown 1 = .ok (.getfield 16, 3) := by decide +kernel
theorem dX4_thrown_4 : decode cX4_thrown 4 = .ok (.ireturn, 1) := by decide +kernel
theorem dX4_in_0 : decode cX4_in 0 = .ok (.iload_n 0, 1) := by decide +kernel
theorem dX4_in_1 : decode cX4_in 1 = .ok (.iload_n 1, 1) := by decide +kernel
theorem dX4_in_2 : decode cX4_in 2 = .ok (.if_icmp .lt 12, 3) := by decide +kernel
theorem dX4_in_5 : decode cX4_in 5 = .ok (.iload_n 0, 1) := by decide +kernel
theorem dX4_in_6 : decode cX4_in 6 = .ok (.iload_n 2, 1) := by decide +kernel
theorem dX4_in_7 : decode cX4_in 7 = .ok (.if_icmp .gt 7, 3) := by decide +kernel
theorem dX4_in_10 : decode cX4_in 10 = .ok (.iconst 1, 1) := by decide +kernel
theorem dX4_in_11 : decode cX4_in 11 = .ok (.goto 4, 3) := by decide +kernel
theorem dX4_in_14 : decode cX4_in 14 = .ok (.iconst 0, 1) := by decide +kernel
theorem dX4_in_15 : decode cX4_in 15 = .ok (.ireturn, 1) := by decide +kernel
theorem dX4_holds_0 : decode cX4_holds 0 = .ok (.aload_n 0, 1) := by decide +kernel
theorem dX4_holds_1 : decode cX4_holds 1 = .ok (.iload_n 1, 1) := by decide +kernel
theorem dX4_holds_2 : decode cX4_holds 2 = .ok (.putfield 16, 3) := by decide +kernel
theorem dX4_holds_5 : decode cX4_holds 5 = .ok (.iload_n 1, 1) := by decide +kernel
theorem dX4_holds_6 : decode cX4_holds 6 = .ok (.ifCond .ne 7, 3) := by decide +kernel
theorem dX4_holds_9 : decode cX4_holds 9 = .ok (.iconst 1, 1) := by decide +kernel
theorem dX4_holds_10 : decode cX4_holds 10 = .ok (.goto 4, 3) := by decide +kernel
theorem dX4_holds_13 : decode cX4_holds 13 = .ok (.iconst 0, 1) := by decide +kernel
theorem dX4_holds_14 : decode cX4_holds 14 = .ok (.ireturn, 1) := by decide +kernel
theorem dX4_told_0 : decode cX4_told 0 = .ok (.aload_n 0, 1) := by decide +kernel
theorem dX4_told_1 : decode cX4_told 1 = .ok (.iconst 0, 1) := by decide +kernel
theorem dX4_told_2 : decode cX4_told 2 = .ok (.putfield 16, 3) := by decide +kernel
theorem dX4_told_5 : decode cX4_told 5 = .ok (.iload_n 1, 1) := by decide +kernel
theorem dX4_told_6 : decode cX4_told 6 = .ok (.ireturn, 1) := by decide +kernel
theorem dX4_isInn_0 : decode cX4_isInn 0 = .ok (.iload_n 0, 1) := by decide +kernel
theorem dX4_isInn_1 : decode cX4_isInn 1 = .ok (.iconst 0, 1) := by decide +kernel
theorem dX4_isInn_2 : decode cX4_isInn 2 = .ok (.bipush 7, 2) := by decide +kernel
theorem dX4_isInn_4 : decode cX4_isInn 4 = .ok (.invokestatic 20, 3) := by decide +kernel
theorem dX4_isInn_7 : decode cX4_isInn 7 = .ok (.ireturn, 1) := by decide +kernel
theorem dX4_isHall_0 : decode cX4_isHall 0 = .ok (.iload_n 0, 1) := by decide +kernel
theorem dX4_isHall_1 : decode cX4_isHall 1 = .ok (.iconst 0, 1) := by decide +kernel
theorem dX4_isHall_2 : decode cX4_isHall 2 = .ok (.iconst 3, 1) := by decide +kernel
theorem dX4_isHall_3 : decode cX4_isHall 3 = .ok (.invokestatic 20, 3) := by decide +kernel
theorem dX4_isHall_6 : decode cX4_isHall 6 = .ok (.ireturn, 1) := by decide +kernel
theorem dX4_isRoad_0 : decode cX4_isRoad 0 = .ok (.iload_n 1, 1) := by decide +kernel
theorem dX4_isRoad_1 : decode cX4_isRoad 1 = .ok (.iconst 0, 1) := by decide +kernel
theorem dX4_isRoad_2 : decode cX4_isRoad 2 = .ok (.aload_n 0, 1) := by decide +kernel
theorem dX4_isRoad_3 : decode cX4_isRoad 3 = .ok (.getfield 7, 3) := by decide +kernel
theorem dX4_isRoad_6 : decode cX4_isRoad 6 = .ok (.iconst 0, 1) := by decide +kernel
theorem dX4_isRoad_7 : decode cX4_isRoad 7 = .ok (.iaload, 1) := by decide +kernel
theorem dX4_isRoad_8 : decode cX4_isRoad 8 = .ok (.iconst 1, 1) := by decide +kernel
theorem dX4_isRoad_9 : decode cX4_isRoad 9 = .ok (.isub, 1) := by decide +kernel
theorem dX4_isRoad_10 : decode cX4_isRoad 10 = .ok (.invokestatic 20, 3) := by decide +kernel
theorem dX4_isRoad_13 : decode cX4_isRoad 13 = .ok (.ireturn, 1) := by decide +kernel
theorem dX4_isEnvelope_0 : decode cX4_isEnvelope 0 = .ok (.iload_n 1, 1) := by decide +kernel
theorem dX4_isEnvelope_1 : decode cX4_isEnvelope 1 = .ok (.iconst 0, 1) := by decide +kernel
theorem dX4_isEnvelope_2 : decode cX4_isEnvelope 2 = .ok (.aload_n 0, 1) := by decide +kernel
theorem dX4_isEnvelope_3 : decode cX4_isEnvelope 3 = .ok (.getfield 7, 3) := by decide +kernel
theorem dX4_isEnvelope_6 : decode cX4_isEnvelope 6 = .ok (.iconst 1, 1) := by decide +kernel
theorem dX4_isEnvelope_7 : decode cX4_isEnvelope 7 = .ok (.iaload, 1) := by decide +kernel
theorem dX4_isEnvelope_8 : decode cX4_isEnvelope 8 = .ok (.iconst 1, 1) := by decide +kernel
theorem dX4_isEnvelope_9 : decode cX4_isEnvelope 9 = .ok (.isub, 1) := by decide +kernel
theorem dX4_isEnvelope_10 : decode cX4_isEnvelope 10 = .ok (.invokestatic 20, 3) := by decide +kernel
theorem dX4_isEnvelope_13 : decode cX4_isEnvelope 13 = .ok (.ireturn, 1) := by decide +kernel
theorem dX4_isBody_0 : decode cX4_isBody 0 = .ok (.iload_n 0, 1) := by decide +kernel
theorem dX4_isBody_1 : decode cX4_isBody 1 = .ok (.iconst 0, 1) := by decide +kernel
theorem dX4_isBody_2 : decode cX4_isBody 2 = .ok (.sipush 9999, 3) := by decide +kernel
theorem dX4_isBody_5 : decode cX4_isBody 5 = .ok (.invokestatic 20, 3) := by decide +kernel
theorem dX4_isBody_8 : decode cX4_isBody 8 = .ok (.ireturn, 1) := by decide +kernel
theorem dX4_covered_0 : decode cX4_covered 0 = .ok (.bipush 7, 2) := by decide +kernel
theorem dX4_covered_2 : decode cX4_covered 2 = .ok (.iload_n 0, 1) := by decide +kernel
theorem dX4_covered_3 : decode cX4_covered 3 = .ok (.imul, 1) := by decide +kernel
theorem dX4_covered_4 : decode cX4_covered 4 = .ok (.iload_n 1, 1) := by decide +kernel
theorem dX4_covered_5 : decode cX4_covered 5 = .ok (.iadd, 1) := by decide +kernel
theorem dX4_covered_6 : decode cX4_covered 6 = .ok (.sipush 10000, 3) := by decide +kernel
theorem dX4_covered_9 : decode cX4_covered 9 = .ok (.irem, 1) := by decide +kernel
theorem dX4_covered_10 : decode cX4_covered 10 = .ok (.ireturn, 1) := by decide +kernel
theorem dX4_uncovered_0 : decode cX4_uncovered 0 = .ok (.sipush 7143, 3) := by decide +kernel
theorem dX4_uncovered_3 : decode cX4_uncovered 3 = .ok (.iload_n 0, 1) := by decide +kernel
theorem dX4_uncovered_4 : decode cX4_uncovered 4 = .ok (.iload_n 1, 1) := by decide +kernel
theorem dX4_uncovered_5 : decode cX4_uncovered 5 = .ok (.isub, 1) := by decide +kernel
theorem dX4_uncovered_6 : decode cX4_uncovered 6 = .ok (.sipush 10000, 3) := by decide +kernel
theorem dX4_uncovered_9 : decode cX4_uncovered 9 = .ok (.iadd, 1) := by decide +kernel
theorem dX4_uncovered_10 : decode cX4_uncovered 10 = .ok (.imul, 1) := by decide +kernel
theorem dX4_uncovered_11 : decode cX4_uncovered 11 = .ok (.sipush 10000, 3) := by decide +kernel
theorem dX4_uncovered_14 : decode cX4_uncovered 14 = .ok (.irem, 1) := by decide +kernel
theorem dX4_uncovered_15 : decode cX4_uncovered 15 = .ok (.ireturn, 1) := by decide +kernel
theorem dX4_innOf_0 : decode cX4_innOf 0 = .ok (.aload_n 0, 1) := by decide +kernel
theorem dX4_innOf_1 : decode cX4_innOf 1 = .ok (.getfield 7, 3) := by decide +kernel
theorem dX4_innOf_4 : decode cX4_innOf 4 = .ok (.bipush 24, 2) := by decide +kernel
theorem dX4_innOf_6 : decode cX4_innOf 6 = .ok (.bipush 7, 2) := by decide +kernel
theorem dX4_innOf_8 : decode cX4_innOf 8 = .ok (.iload_n 1, 1) := by decide +kernel
theorem dX4_innOf_9 : decode cX4_innOf 9 = .ok (.imul, 1) := by decide +kernel
theorem dX4_innOf_10 : decode cX4_innOf 10 = .ok (.iadd, 1) := by decide +kernel
theorem dX4_innOf_11 : decode cX4_innOf 11 = .ok (.iload_n 2, 1) := by decide +kernel
theorem dX4_innOf_12 : decode cX4_innOf 12 = .ok (.iadd, 1) := by decide +kernel
theorem dX4_innOf_13 : decode cX4_innOf 13 = .ok (.iconst 1, 1) := by decide +kernel
theorem dX4_innOf_14 : decode cX4_innOf 14 = .ok (.isub, 1) := by decide +kernel
theorem dX4_innOf_15 : decode cX4_innOf 15 = .ok (.iaload, 1) := by decide +kernel
theorem dX4_innOf_16 : decode cX4_innOf 16 = .ok (.ireturn, 1) := by decide +kernel
theorem dX4_keyOf_0 : decode cX4_keyOf 0 = .ok (.aload_n 0, 1) := by decide +kernel
theorem dX4_keyOf_1 : decode cX4_keyOf 1 = .ok (.getfield 7, 3) := by decide +kernel
theorem dX4_keyOf_4 : decode cX4_keyOf 4 = .ok (.bipush 24, 2) := by decide +kernel
theorem dX4_keyOf_6 : decode cX4_keyOf 6 = .ok (.bipush 7, 2) := by decide +kernel
theorem dX4_keyOf_8 : decode cX4_keyOf 8 = .ok (.iload_n 1, 1) := by decide +kernel
theorem dX4_keyOf_9 : decode cX4_keyOf 9 = .ok (.imul, 1) := by decide +kernel
theorem dX4_keyOf_10 : decode cX4_keyOf 10 = .ok (.iadd, 1) := by decide +kernel
theorem dX4_keyOf_11 : decode cX4_keyOf 11 = .ok (.iconst 2, 1) := by decide +kernel
theorem dX4_keyOf_12 : decode cX4_keyOf 12 = .ok (.iadd, 1) := by decide +kernel
theorem dX4_keyOf_13 : decode cX4_keyOf 13 = .ok (.iload_n 2, 1) := by decide +kernel
theorem dX4_keyOf_14 : decode cX4_keyOf 14 = .ok (.iadd, 1) := by decide +kernel
theorem dX4_keyOf_15 : decode cX4_keyOf 15 = .ok (.iaload, 1) := by decide +kernel
theorem dX4_keyOf_16 : decode cX4_keyOf 16 = .ok (.ireturn, 1) := by decide +kernel
theorem dX4_hallOf_0 : decode cX4_hallOf 0 = .ok (.aload_n 0, 1) := by decide +kernel
theorem dX4_hallOf_1 : decode cX4_hallOf 1 = .ok (.getfield 7, 3) := by decide +kernel
theorem dX4_hallOf_4 : decode cX4_hallOf 4 = .ok (.bipush 24, 2) := by decide +kernel
theorem dX4_hallOf_6 : decode cX4_hallOf 6 = .ok (.bipush 7, 2) := by decide +kernel
theorem dX4_hallOf_8 : decode cX4_hallOf 8 = .ok (.iload_n 1, 1) := by decide +kernel
theorem dX4_hallOf_9 : decode cX4_hallOf 9 = .ok (.imul, 1) := by decide +kernel
theorem dX4_hallOf_10 : decode cX4_hallOf 10 = .ok (.iadd, 1) := by decide +kernel
theorem dX4_hallOf_11 : decode cX4_hallOf 11 = .ok (.bipush 6, 2) := by decide +kernel
theorem dX4_hallOf_13 : decode cX4_hallOf 13 = .ok (.iadd, 1) := by decide +kernel
theorem dX4_hallOf_14 : decode cX4_hallOf 14 = .ok (.iaload, 1) := by decide +kernel
theorem dX4_hallOf_15 : decode cX4_hallOf 15 = .ok (.ireturn, 1) := by decide +kernel
theorem dX4_placeOn_0 : decode cX4_placeOn 0 = .ok (.iconst 1, 1) := by decide +kernel
theorem dX4_placeOn_1 : decode cX4_placeOn 1 = .ok (.istore_n 3, 1) := by decide +kernel
theorem dX4_placeOn_2 : decode cX4_placeOn 2 = .ok (.iload_n 3, 1) := by decide +kernel
theorem dX4_placeOn_3 : decode cX4_placeOn 3 = .ok (.iconst 4, 1) := by decide +kernel
theorem dX4_placeOn_4 : decode cX4_placeOn 4 = .ok (.if_icmp .ge 21, 3) := by decide +kernel
theorem dX4_placeOn_7 : decode cX4_placeOn 7 = .ok (.aload_n 0, 1) := by decide +kernel
theorem dX4_placeOn_8 : decode cX4_placeOn 8 = .ok (.iload_n 2, 1) := by decide +kernel
theorem dX4_placeOn_9 : decode cX4_placeOn 9 = .ok (.iload_n 3, 1) := by decide +kernel
theorem dX4_placeOn_10 : decode cX4_placeOn 10 = .ok (.invokevirtual 24, 3) := by decide +kernel
theorem dX4_placeOn_13 : decode cX4_placeOn 13 = .ok (.iload_n 1, 1) := by decide +kernel
theorem dX4_placeOn_14 : decode cX4_placeOn 14 = .ok (.if_icmp .ne 5, 3) := by decide +kernel
theorem dX4_placeOn_17 : decode cX4_placeOn 17 = .ok (.iload_n 3, 1) := by decide +kernel
theorem dX4_placeOn_18 : decode cX4_placeOn 18 = .ok (.ireturn, 1) := by decide +kernel
theorem dX4_placeOn_19 : decode cX4_placeOn 19 = .ok (.iinc 3 1, 3) := by decide +kernel
theorem dX4_placeOn_22 : decode cX4_placeOn 22 = .ok (.goto (-20), 3) := by decide +kernel
theorem dX4_placeOn_25 : decode cX4_placeOn 25 = .ok (.iconst 0, 1) := by decide +kernel
theorem dX4_placeOn_26 : decode cX4_placeOn 26 = .ok (.ireturn, 1) := by decide +kernel
theorem dX4_of_0 : decode cX4_of 0 = .ok (.aload_n 0, 1) := by decide +kernel
theorem dX4_of_1 : decode cX4_of 1 = .ok (.getfield 7, 3) := by decide +kernel
theorem dX4_of_4 : decode cX4_of 4 = .ok (.bipush 66, 2) := by decide +kernel
theorem dX4_of_6 : decode cX4_of 6 = .ok (.iconst 4, 1) := by decide +kernel
theorem dX4_of_7 : decode cX4_of 7 = .ok (.iload_n 1, 1) := by decide +kernel
theorem dX4_of_8 : decode cX4_of 8 = .ok (.imul, 1) := by decide +kernel
theorem dX4_of_9 : decode cX4_of 9 = .ok (.iadd, 1) := by decide +kernel
theorem dX4_of_10 : decode cX4_of 10 = .ok (.iload_n 2, 1) := by decide +kernel
theorem dX4_of_11 : decode cX4_of 11 = .ok (.iadd, 1) := by decide +kernel
theorem dX4_of_12 : decode cX4_of 12 = .ok (.iaload, 1) := by decide +kernel
theorem dX4_of_13 : decode cX4_of 13 = .ok (.ireturn, 1) := by decide +kernel
theorem dX4_lay4_0 : decode cX4_lay4 0 = .ok (.aload_n 0, 1) := by decide +kernel
theorem dX4_lay4_1 : decode cX4_lay4 1 = .ok (.getfield 7, 3) := by decide +kernel
theorem dX4_lay4_4 : decode cX4_lay4 4 = .ok (.bipush 66, 2) := by decide +kernel
theorem dX4_lay4_6 : decode cX4_lay4 6 = .ok (.iconst 4, 1) := by decide +kernel
theorem dX4_lay4_7 : decode cX4_lay4 7 = .ok (.iload_n 1, 1) := by decide +kernel
theorem dX4_lay4_8 : decode cX4_lay4 8 = .ok (.imul, 1) := by decide +kernel
theorem dX4_lay4_9 : decode cX4_lay4 9 = .ok (.iadd, 1) := by decide +kernel
theorem dX4_lay4_10 : decode cX4_lay4 10 = .ok (.iload_n 2, 1) := by decide +kernel
theorem dX4_lay4_11 : decode cX4_lay4 11 = .ok (.iadd, 1) := by decide +kernel
theorem dX4_lay4_12 : decode cX4_lay4 12 = .ok (.iload_n 3, 1) := by decide +kernel
theorem dX4_lay4_13 : decode cX4_lay4 13 = .ok (.iastore, 1) := by decide +kernel
theorem dX4_lay4_14 : decode cX4_lay4 14 = .ok (.return_, 1) := by decide +kernel
theorem dX4_isOpenNow_0 : decode cX4_isOpenNow 0 = .ok (.aload_n 0, 1) := by decide +kernel
theorem dX4_isOpenNow_1 : decode cX4_isOpenNow 1 = .ok (.getfield 7, 3) := by decide +kernel
theorem dX4_isOpenNow_4 : decode cX4_isOpenNow 4 = .ok (.bipush 8, 2) := by decide +kernel
theorem dX4_isOpenNow_6 : decode cX4_isOpenNow 6 = .ok (.iload_n 1, 1) := by decide +kernel
theorem dX4_isOpenNow_7 : decode cX4_isOpenNow 7 = .ok (.iadd, 1) := by decide +kernel
theorem dX4_isOpenNow_8 : decode cX4_isOpenNow 8 = .ok (.iaload, 1) := by decide +kernel
theorem dX4_isOpenNow_9 : decode cX4_isOpenNow 9 = .ok (.iconst 1, 1) := by decide +kernel
theorem dX4_isOpenNow_10 : decode cX4_isOpenNow 10 = .ok (.if_icmp .ne 7, 3) := by decide +kernel
theorem dX4_isOpenNow_13 : decode cX4_isOpenNow 13 = .ok (.iconst 1, 1) := by decide +kernel
theorem dX4_isOpenNow_14 : decode cX4_isOpenNow 14 = .ok (.goto 4, 3) := by decide +kernel
theorem dX4_isOpenNow_17 : decode cX4_isOpenNow 17 = .ok (.iconst 0, 1) := by decide +kernel
theorem dX4_isOpenNow_18 : decode cX4_isOpenNow 18 = .ok (.ireturn, 1) := by decide +kernel
theorem dX4_standsNow_0 : decode cX4_standsNow 0 = .ok (.aload_n 0, 1) := by decide +kernel
theorem dX4_standsNow_1 : decode cX4_standsNow 1 = .ok (.aload_n 0, 1) := by decide +kernel
theorem dX4_standsNow_2 : decode cX4_standsNow 2 = .ok (.iload_n 1, 1) := by decide +kernel
theorem dX4_standsNow_3 : decode cX4_standsNow 3 = .ok (.iconst 1, 1) := by decide +kernel
theorem dX4_standsNow_4 : decode cX4_standsNow 4 = .ok (.invokevirtual 24, 3) := by decide +kernel
theorem dX4_standsNow_7 : decode cX4_standsNow 7 = .ok (.invokevirtual 28, 3) := by decide +kernel
theorem dX4_standsNow_10 : decode cX4_standsNow 10 = .ok (.ifCond .eq 33, 3) := by decide +kernel
theorem dX4_standsNow_13 : decode cX4_standsNow 13 = .ok (.aload_n 0, 1) := by decide +kernel
theorem dX4_standsNow_14 : decode cX4_standsNow 14 = .ok (.aload_n 0, 1) := by decide +kernel
theorem dX4_standsNow_15 : decode cX4_standsNow 15 = .ok (.iload_n 1, 1) := by decide +kernel
theorem dX4_standsNow_16 : decode cX4_standsNow 16 = .ok (.iconst 2, 1) := by decide +kernel
theorem dX4_standsNow_17 : decode cX4_standsNow 17 = .ok (.invokevirtual 24, 3) := by decide +kernel
theorem dX4_standsNow_20 : decode cX4_standsNow 20 = .ok (.invokevirtual 28, 3) := by decide +kernel
theorem dX4_standsNow_23 : decode cX4_standsNow 23 = .ok (.ifCond .eq 20, 3) := by decide +kernel
theorem dX4_standsNow_26 : decode cX4_standsNow 26 = .ok (.aload_n 0, 1) := by decide +kernel
theorem dX4_standsNow_27 : decode cX4_standsNow 27 = .ok (.aload_n 0, 1) := by decide +kernel
theorem dX4_standsNow_28 : decode cX4_standsNow 28 = .ok (.iload_n 1, 1) := by decide +kernel
theorem dX4_standsNow_29 : decode cX4_standsNow 29 = .ok (.iconst 3, 1) := by decide +kernel
theorem dX4_standsNow_30 : decode cX4_standsNow 30 = .ok (.invokevirtual 24, 3) := by decide +kernel
theorem dX4_standsNow_33 : decode cX4_standsNow 33 = .ok (.invokevirtual 28, 3) := by decide +kernel
theorem dX4_standsNow_36 : decode cX4_standsNow 36 = .ok (.ifCond .eq 7, 3) := by decide +kernel
theorem dX4_standsNow_39 : decode cX4_standsNow 39 = .ok (.iconst 1, 1) := by decide +kernel
theorem dX4_standsNow_40 : decode cX4_standsNow 40 = .ok (.goto 4, 3) := by decide +kernel
theorem dX4_standsNow_43 : decode cX4_standsNow 43 = .ok (.iconst 0, 1) := by decide +kernel
theorem dX4_standsNow_44 : decode cX4_standsNow 44 = .ok (.ireturn, 1) := by decide +kernel
theorem dX4_puts_0 : decode cX4_puts 0 = .ok (.aload_n 0, 1) := by decide +kernel
theorem dX4_puts_1 : decode cX4_puts 1 = .ok (.getfield 7, 3) := by decide +kernel
theorem dX4_puts_4 : decode cX4_puts 4 = .ok (.iconst 1, 1) := by decide +kernel
theorem dX4_puts_5 : decode cX4_puts 5 = .ok (.iaload, 1) := by decide +kernel
theorem dX4_puts_6 : decode cX4_puts 6 = .ok (.istore 5, 2) := by decide +kernel
theorem dX4_puts_8 : decode cX4_puts 8 = .ok (.aload_n 0, 1) := by decide +kernel
theorem dX4_puts_9 : decode cX4_puts 9 = .ok (.iload 5, 2) := by decide +kernel
theorem dX4_puts_11 : decode cX4_puts 11 = .ok (.iconst 0, 1) := by decide +kernel
theorem dX4_puts_12 : decode cX4_puts 12 = .ok (.iload_n 1, 1) := by decide +kernel
theorem dX4_puts_13 : decode cX4_puts 13 = .ok (.invokevirtual 32, 3) := by decide +kernel
theorem dX4_puts_16 : decode cX4_puts 16 = .ok (.aload_n 0, 1) := by decide +kernel
theorem dX4_puts_17 : decode cX4_puts 17 = .ok (.iload 5, 2) := by decide +kernel
theorem dX4_puts_19 : decode cX4_puts 19 = .ok (.iconst 1, 1) := by decide +kernel
theorem dX4_puts_20 : decode cX4_puts 20 = .ok (.iload_n 2, 1) := by decide +kernel
theorem dX4_puts_21 : decode cX4_puts 21 = .ok (.invokevirtual 32, 3) := by decide +kernel
theorem dX4_puts_24 : decode cX4_puts 24 = .ok (.aload_n 0, 1) := by decide +kernel
theorem dX4_puts_25 : decode cX4_puts 25 = .ok (.iload 5, 2) := by decide +kernel
theorem dX4_puts_27 : decode cX4_puts 27 = .ok (.iconst 2, 1) := by decide +kernel
theorem dX4_puts_28 : decode cX4_puts 28 = .ok (.iload_n 3, 1) := by decide +kernel
theorem dX4_puts_29 : decode cX4_puts 29 = .ok (.invokevirtual 32, 3) := by decide +kernel
theorem dX4_puts_32 : decode cX4_puts 32 = .ok (.aload_n 0, 1) := by decide +kernel
theorem dX4_puts_33 : decode cX4_puts 33 = .ok (.iload 5, 2) := by decide +kernel
theorem dX4_puts_35 : decode cX4_puts 35 = .ok (.iconst 3, 1) := by decide +kernel
theorem dX4_puts_36 : decode cX4_puts 36 = .ok (.iload 4, 2) := by decide +kernel
theorem dX4_puts_38 : decode cX4_puts 38 = .ok (.invokevirtual 32, 3) := by decide +kernel
theorem dX4_puts_41 : decode cX4_puts 41 = .ok (.aload_n 0, 1) := by decide +kernel
theorem dX4_puts_42 : decode cX4_puts 42 = .ok (.getfield 7, 3) := by decide +kernel
theorem dX4_puts_45 : decode cX4_puts 45 = .ok (.iconst 1, 1) := by decide +kernel
theorem dX4_puts_46 : decode cX4_puts 46 = .ok (.dup2, 1) := by decide +kernel
theorem dX4_puts_47 : decode cX4_puts 47 = .ok (.iaload, 1) := by decide +kernel
theorem dX4_puts_48 : decode cX4_puts 48 = .ok (.iconst 1, 1) := by decide +kernel
theorem dX4_puts_49 : decode cX4_puts 49 = .ok (.iadd, 1) := by decide +kernel
theorem dX4_puts_50 : decode cX4_puts 50 = .ok (.iastore, 1) := by decide +kernel
theorem dX4_puts_51 : decode cX4_puts 51 = .ok (.iload 5, 2) := by decide +kernel
theorem dX4_puts_53 : decode cX4_puts 53 = .ok (.ireturn, 1) := by decide +kernel
theorem dX4_sends_0 : decode cX4_sends 0 = .ok (.iload_n 2, 1) := by decide +kernel
theorem dX4_sends_1 : decode cX4_sends 1 = .ok (.istore_n 3, 1) := by decide +kernel
theorem dX4_sends_2 : decode cX4_sends 2 = .ok (.iconst 3, 1) := by decide +kernel
theorem dX4_sends_3 : decode cX4_sends 3 = .ok (.istore 4, 2) := by decide +kernel
theorem dX4_sends_5 : decode cX4_sends 5 = .ok (.iload 4, 2) := by decide +kernel
theorem dX4_sends_7 : decode cX4_sends 7 = .ok (.ifCond .le 21, 3) := by decide +kernel
theorem dX4_sends_10 : decode cX4_sends 10 = .ok (.iload_n 3, 1) := by decide +kernel
theorem dX4_sends_11 : decode cX4_sends 11 = .ok (.aload_n 0, 1) := by decide +kernel
theorem dX4_sends_12 : decode cX4_sends 12 = .ok (.iload_n 1, 1) := by decide +kernel
theorem dX4_sends_13 : decode cX4_sends 13 = .ok (.iload 4, 2) := by decide +kernel
theorem dX4_sends_15 : decode cX4_sends 15 = .ok (.invokevirtual 36, 3) := by decide +kernel
theorem dX4_sends_18 : decode cX4_sends 18 = .ok (.invokestatic 39, 3) := by decide +kernel
theorem dX4_sends_21 : decode cX4_sends 21 = .ok (.istore_n 3, 1) := by decide +kernel
theorem dX4_sends_22 : decode cX4_sends 22 = .ok (.iinc 4 (-1), 3) := by decide +kernel
theorem dX4_sends_25 : decode cX4_sends 25 = .ok (.goto (-20), 3) := by decide +kernel
theorem dX4_sends_28 : decode cX4_sends 28 = .ok (.aload_n 0, 1) := by decide +kernel
theorem dX4_sends_29 : decode cX4_sends 29 = .ok (.getfield 7, 3) := by decide +kernel
theorem dX4_sends_32 : decode cX4_sends 32 = .ok (.iconst 3, 1) := by decide +kernel
theorem dX4_sends_33 : decode cX4_sends 33 = .ok (.dup2, 1) := by decide +kernel
theorem dX4_sends_34 : decode cX4_sends 34 = .ok (.iaload, 1) := by decide +kernel
theorem dX4_sends_35 : decode cX4_sends 35 = .ok (.iconst 1, 1) := by decide +kernel
theorem dX4_sends_36 : decode cX4_sends 36 = .ok (.iadd, 1) := by decide +kernel
theorem dX4_sends_37 : decode cX4_sends 37 = .ok (.iastore, 1) := by decide +kernel
theorem dX4_sends_38 : decode cX4_sends 38 = .ok (.aload_n 0, 1) := by decide +kernel
theorem dX4_sends_39 : decode cX4_sends 39 = .ok (.iload_n 1, 1) := by decide +kernel
theorem dX4_sends_40 : decode cX4_sends 40 = .ok (.iconst 0, 1) := by decide +kernel
theorem dX4_sends_41 : decode cX4_sends 41 = .ok (.iload_n 3, 1) := by decide +kernel
theorem dX4_sends_42 : decode cX4_sends 42 = .ok (.iconst 0, 1) := by decide +kernel
theorem dX4_sends_43 : decode cX4_sends 43 = .ok (.invokevirtual 42, 3) := by decide +kernel
theorem dX4_sends_46 : decode cX4_sends 46 = .ok (.ireturn, 1) := by decide +kernel
theorem dX4_answers_0 : decode cX4_answers 0 = .ok (.aload_n 0, 1) := by decide +kernel
theorem dX4_answers_1 : decode cX4_answers 1 = .ok (.getfield 7, 3) := by decide +kernel
theorem dX4_answers_4 : decode cX4_answers 4 = .ok (.iconst 5, 1) := by decide +kernel
theorem dX4_answers_5 : decode cX4_answers 5 = .ok (.dup2, 1) := by decide +kernel
theorem dX4_answers_6 : decode cX4_answers 6 = .ok (.iaload, 1) := by decide +kernel
theorem dX4_answers_7 : decode cX4_answers 7 = .ok (.iconst 1, 1) := by decide +kernel
theorem dX4_answers_8 : decode cX4_answers 8 = .ok (.iadd, 1) := by decide +kernel
theorem dX4_answers_9 : decode cX4_answers 9 = .ok (.iastore, 1) := by decide +kernel
theorem dX4_answers_10 : decode cX4_answers 10 = .ok (.aload_n 0, 1) := by decide +kernel
theorem dX4_answers_11 : decode cX4_answers 11 = .ok (.aload_n 0, 1) := by decide +kernel
theorem dX4_answers_12 : decode cX4_answers 12 = .ok (.getfield 7, 3) := by decide +kernel
theorem dX4_answers_15 : decode cX4_answers 15 = .ok (.bipush 118, 2) := by decide +kernel
theorem dX4_answers_17 : decode cX4_answers 17 = .ok (.iload_n 1, 1) := by decide +kernel
theorem dX4_answers_18 : decode cX4_answers 18 = .ok (.iadd, 1) := by decide +kernel
theorem dX4_answers_19 : decode cX4_answers 19 = .ok (.iaload, 1) := by decide +kernel
theorem dX4_answers_20 : decode cX4_answers 20 = .ok (.iconst 4, 1) := by decide +kernel
theorem dX4_answers_21 : decode cX4_answers 21 = .ok (.iload_n 2, 1) := by decide +kernel
theorem dX4_answers_22 : decode cX4_answers 22 = .ok (.iconst 1, 1) := by decide +kernel
theorem dX4_answers_23 : decode cX4_answers 23 = .ok (.invokevirtual 42, 3) := by decide +kernel
theorem dX4_answers_26 : decode cX4_answers 26 = .ok (.ireturn, 1) := by decide +kernel
theorem dX4_leaves_0 : decode cX4_leaves 0 = .ok (.aload_n 0, 1) := by decide +kernel
theorem dX4_leaves_1 : decode cX4_leaves 1 = .ok (.iload_n 1, 1) := by decide +kernel
theorem dX4_leaves_2 : decode cX4_leaves 2 = .ok (.iconst 0, 1) := by decide +kernel
theorem dX4_leaves_3 : decode cX4_leaves 3 = .ok (.iconst (-1), 1) := by decide +kernel
theorem dX4_leaves_4 : decode cX4_leaves 4 = .ok (.invokevirtual 32, 3) := by decide +kernel
theorem dX4_leaves_7 : decode cX4_leaves 7 = .ok (.return_, 1) := by decide +kernel
theorem dX4_arrives_0 : decode cX4_arrives 0 = .ok (.aload_n 0, 1) := by decide +kernel
theorem dX4_arrives_1 : decode cX4_arrives 1 = .ok (.iload_n 1, 1) := by decide +kernel
theorem dX4_arrives_2 : decode cX4_arrives 2 = .ok (.iconst 0, 1) := by decide +kernel
theorem dX4_arrives_3 : decode cX4_arrives 3 = .ok (.invokevirtual 46, 3) := by decide +kernel
theorem dX4_arrives_6 : decode cX4_arrives 6 = .ok (.istore_n 2, 1) := by decide +kernel
theorem dX4_arrives_7 : decode cX4_arrives 7 = .ok (.aload_n 0, 1) := by decide +kernel
theorem dX4_arrives_8 : decode cX4_arrives 8 = .ok (.iload_n 1, 1) := by decide +kernel
theorem dX4_arrives_9 : decode cX4_arrives 9 = .ok (.iconst 2, 1) := by decide +kernel
theorem dX4_arrives_10 : decode cX4_arrives 10 = .ok (.invokevirtual 46, 3) := by decide +kernel
theorem dX4_arrives_13 : decode cX4_arrives 13 = .ok (.istore_n 3, 1) := by decide +kernel
theorem dX4_arrives_14 : decode cX4_arrives 14 = .ok (.aload_n 0, 1) := by decide +kernel
theorem dX4_arrives_15 : decode cX4_arrives 15 = .ok (.iload_n 1, 1) := by decide +kernel
theorem dX4_arrives_16 : decode cX4_arrives 16 = .ok (.iconst 3, 1) := by decide +kernel
theorem dX4_arrives_17 : decode cX4_arrives 17 = .ok (.invokevirtual 46, 3) := by decide +kernel
theorem dX4_arrives_20 : decode cX4_arrives 20 = .ok (.ifCond .ne 44, 3) := by decide +kernel
theorem dX4_arrives_23 : decode cX4_arrives 23 = .ok (.aload_n 0, 1) := by decide +kernel
theorem dX4_arrives_24 : decode cX4_arrives 24 = .ok (.getfield 7, 3) := by decide +kernel
theorem dX4_arrives_27 : decode cX4_arrives 27 = .ok (.bipush 114, 2) := by decide +kernel
theorem dX4_arrives_29 : decode cX4_arrives 29 = .ok (.aload_n 0, 1) := by decide +kernel
theorem dX4_arrives_30 : decode cX4_arrives 30 = .ok (.iload_n 2, 1) := by decide +kernel
theorem dX4_arrives_31 : decode cX4_arrives 31 = .ok (.invokevirtual 49, 3) := by decide +kernel
theorem dX4_arrives_34 : decode cX4_arrives 34 = .ok (.iadd, 1) := by decide +kernel
theorem dX4_arrives_35 : decode cX4_arrives 35 = .ok (.iload_n 3, 1) := by decide +kernel
theorem dX4_arrives_36 : decode cX4_arrives 36 = .ok (.iastore, 1) := by decide +kernel
theorem dX4_arrives_37 : decode cX4_arrives 37 = .ok (.aload_n 0, 1) := by decide +kernel
theorem dX4_arrives_38 : decode cX4_arrives 38 = .ok (.getfield 7, 3) := by decide +kernel
theorem dX4_arrives_41 : decode cX4_arrives 41 = .ok (.bipush 118, 2) := by decide +kernel
theorem dX4_arrives_43 : decode cX4_arrives 43 = .ok (.aload_n 0, 1) := by decide +kernel
theorem dX4_arrives_44 : decode cX4_arrives 44 = .ok (.iload_n 2, 1) := by decide +kernel
theorem dX4_arrives_45 : decode cX4_arrives 45 = .ok (.invokevirtual 49, 3) := by decide +kernel
theorem dX4_arrives_48 : decode cX4_arrives 48 = .ok (.iadd, 1) := by decide +kernel
theorem dX4_arrives_49 : decode cX4_arrives 49 = .ok (.iload_n 2, 1) := by decide +kernel
theorem dX4_arrives_50 : decode cX4_arrives 50 = .ok (.iastore, 1) := by decide +kernel
theorem dX4_arrives_51 : decode cX4_arrives 51 = .ok (.aload_n 0, 1) := by decide +kernel
theorem dX4_arrives_52 : decode cX4_arrives 52 = .ok (.getfield 7, 3) := by decide +kernel
theorem dX4_arrives_55 : decode cX4_arrives 55 = .ok (.iconst 4, 1) := by decide +kernel
theorem dX4_arrives_56 : decode cX4_arrives 56 = .ok (.dup2, 1) := by decide +kernel
theorem dX4_arrives_57 : decode cX4_arrives 57 = .ok (.iaload, 1) := by decide +kernel
theorem dX4_arrives_58 : decode cX4_arrives 58 = .ok (.iconst 1, 1) := by decide +kernel
theorem dX4_arrives_59 : decode cX4_arrives 59 = .ok (.iadd, 1) := by decide +kernel
theorem dX4_arrives_60 : decode cX4_arrives 60 = .ok (.iastore, 1) := by decide +kernel
theorem dX4_arrives_61 : decode cX4_arrives 61 = .ok (.goto 48, 3) := by decide +kernel
theorem dX4_arrives_64 : decode cX4_arrives 64 = .ok (.iconst 1, 1) := by decide +kernel
theorem dX4_arrives_65 : decode cX4_arrives 65 = .ok (.istore 4, 2) := by decide +kernel
theorem dX4_arrives_67 : decode cX4_arrives 67 = .ok (.iload 4, 2) := by decide +kernel
theorem dX4_arrives_69 : decode cX4_arrives 69 = .ok (.iconst 4, 1) := by decide +kernel
theorem dX4_arrives_70 : decode cX4_arrives 70 = .ok (.if_icmp .ge 21, 3) := by decide +kernel
theorem dX4_arrives_73 : decode cX4_arrives 73 = .ok (.iload_n 3, 1) := by decide +kernel
theorem dX4_arrives_74 : decode cX4_arrives 74 = .ok (.aload_n 0, 1) := by decide +kernel
theorem dX4_arrives_75 : decode cX4_arrives 75 = .ok (.iload_n 2, 1) := by decide +kernel
theorem dX4_arrives_76 : decode cX4_arrives 76 = .ok (.iload 4, 2) := by decide +kernel
theorem dX4_arrives_78 : decode cX4_arrives 78 = .ok (.invokevirtual 36, 3) := by decide +kernel
theorem dX4_arrives_81 : decode cX4_arrives 81 = .ok (.invokestatic 53, 3) := by decide +kernel
theorem dX4_arrives_84 : decode cX4_arrives 84 = .ok (.istore_n 3, 1) := by decide +kernel
theorem dX4_arrives_85 : decode cX4_arrives 85 = .ok (.iinc 4 1, 3) := by decide +kernel
theorem dX4_arrives_88 : decode cX4_arrives 88 = .ok (.goto (-21), 3) := by decide +kernel
theorem dX4_arrives_91 : decode cX4_arrives 91 = .ok (.aload_n 0, 1) := by decide +kernel
theorem dX4_arrives_92 : decode cX4_arrives 92 = .ok (.getfield 7, 3) := by decide +kernel
theorem dX4_arrives_95 : decode cX4_arrives 95 = .ok (.iconst 2, 1) := by decide +kernel
theorem dX4_arrives_96 : decode cX4_arrives 96 = .ok (.iload_n 3, 1) := by decide +kernel
theorem dX4_arrives_97 : decode cX4_arrives 97 = .ok (.iastore, 1) := by decide +kernel
theorem dX4_arrives_98 : decode cX4_arrives 98 = .ok (.aload_n 0, 1) := by decide +kernel
theorem dX4_arrives_99 : decode cX4_arrives 99 = .ok (.getfield 7, 3) := by decide +kernel
theorem dX4_arrives_102 : decode cX4_arrives 102 = .ok (.bipush 6, 2) := by decide +kernel
theorem dX4_arrives_104 : decode cX4_arrives 104 = .ok (.dup2, 1) := by decide +kernel
theorem dX4_arrives_105 : decode cX4_arrives 105 = .ok (.iaload, 1) := by decide +kernel
theorem dX4_arrives_106 : decode cX4_arrives 106 = .ok (.iconst 1, 1) := by decide +kernel
theorem dX4_arrives_107 : decode cX4_arrives 107 = .ok (.iadd, 1) := by decide +kernel
theorem dX4_arrives_108 : decode cX4_arrives 108 = .ok (.iastore, 1) := by decide +kernel
theorem dX4_arrives_109 : decode cX4_arrives 109 = .ok (.aload_n 0, 1) := by decide +kernel
theorem dX4_arrives_110 : decode cX4_arrives 110 = .ok (.iload_n 1, 1) := by decide +kernel
theorem dX4_arrives_111 : decode cX4_arrives 111 = .ok (.invokevirtual 56, 3) := by decide +kernel
theorem dX4_arrives_114 : decode cX4_arrives 114 = .ok (.return_, 1) := by decide +kernel
theorem dX4_moves_0 : decode cX4_moves 0 = .ok (.aload_n 0, 1) := by decide +kernel
theorem dX4_moves_1 : decode cX4_moves 1 = .ok (.iload_n 1, 1) := by decide +kernel
theorem dX4_moves_2 : decode cX4_moves 2 = .ok (.iconst 3, 1) := by decide +kernel
theorem dX4_moves_3 : decode cX4_moves 3 = .ok (.invokevirtual 46, 3) := by decide +kernel
theorem dX4_moves_6 : decode cX4_moves 6 = .ok (.iconst 1, 1) := by decide +kernel
theorem dX4_moves_7 : decode cX4_moves 7 = .ok (.if_icmp .ne 7, 3) := by decide +kernel
theorem dX4_moves_10 : decode cX4_moves 10 = .ok (.iconst 1, 1) := by decide +kernel
theorem dX4_moves_11 : decode cX4_moves 11 = .ok (.goto 4, 3) := by decide +kernel
theorem dX4_moves_14 : decode cX4_moves 14 = .ok (.iconst 0, 1) := by decide +kernel
theorem dX4_moves_15 : decode cX4_moves 15 = .ok (.istore_n 2, 1) := by decide +kernel
theorem dX4_moves_16 : decode cX4_moves 16 = .ok (.aload_n 0, 1) := by decide +kernel
theorem dX4_moves_17 : decode cX4_moves 17 = .ok (.iload_n 1, 1) := by decide +kernel
theorem dX4_moves_18 : decode cX4_moves 18 = .ok (.iconst 1, 1) := by decide +kernel
theorem dX4_moves_19 : decode cX4_moves 19 = .ok (.invokevirtual 46, 3) := by decide +kernel
theorem dX4_moves_22 : decode cX4_moves 22 = .ok (.iload_n 2, 1) := by decide +kernel
theorem dX4_moves_23 : decode cX4_moves 23 = .ok (.ifCond .eq 7, 3) := by decide +kernel
theorem dX4_moves_26 : decode cX4_moves 26 = .ok (.iconst (-1), 1) := by decide +kernel
theorem dX4_moves_27 : decode cX4_moves 27 = .ok (.goto 4, 3) := by decide +kernel
theorem dX4_moves_30 : decode cX4_moves 30 = .ok (.iconst 1, 1) := by decide +kernel
theorem dX4_moves_31 : decode cX4_moves 31 = .ok (.iadd, 1) := by decide +kernel
theorem dX4_moves_32 : decode cX4_moves 32 = .ok (.istore_n 3, 1) := by decide +kernel
theorem dX4_moves_33 : decode cX4_moves 33 = .ok (.aload_n 0, 1) := by decide +kernel
theorem dX4_moves_34 : decode cX4_moves 34 = .ok (.iload_n 1, 1) := by decide +kernel
theorem dX4_moves_35 : decode cX4_moves 35 = .ok (.iconst 0, 1) := by decide +kernel
theorem dX4_moves_36 : decode cX4_moves 36 = .ok (.invokevirtual 46, 3) := by decide +kernel
theorem dX4_moves_39 : decode cX4_moves 39 = .ok (.istore 4, 2) := by decide +kernel
theorem dX4_moves_41 : decode cX4_moves 41 = .ok (.aload_n 0, 1) := by decide +kernel
theorem dX4_moves_42 : decode cX4_moves 42 = .ok (.iload_n 1, 1) := by decide +kernel
theorem dX4_moves_43 : decode cX4_moves 43 = .ok (.iconst 1, 1) := by decide +kernel
theorem dX4_moves_44 : decode cX4_moves 44 = .ok (.iload_n 3, 1) := by decide +kernel
theorem dX4_moves_45 : decode cX4_moves 45 = .ok (.invokevirtual 32, 3) := by decide +kernel
theorem dX4_moves_48 : decode cX4_moves 48 = .ok (.iload_n 3, 1) := by decide +kernel
theorem dX4_moves_49 : decode cX4_moves 49 = .ok (.iconst 1, 1) := by decide +kernel
theorem dX4_moves_50 : decode cX4_moves 50 = .ok (.iconst 3, 1) := by decide +kernel
theorem dX4_moves_51 : decode cX4_moves 51 = .ok (.invokestatic 20, 3) := by decide +kernel
theorem dX4_moves_54 : decode cX4_moves 54 = .ok (.ifCond .ne 11, 3) := by decide +kernel
theorem dX4_moves_57 : decode cX4_moves 57 = .ok (.aload_n 0, 1) := by decide +kernel
theorem dX4_moves_58 : decode cX4_moves 58 = .ok (.iload_n 1, 1) := by decide +kernel
theorem dX4_moves_59 : decode cX4_moves 59 = .ok (.invokevirtual 60, 3) := by decide +kernel
theorem dX4_moves_62 : decode cX4_moves 62 = .ok (.goto 80, 3) := by decide +kernel
theorem dX4_moves_65 : decode cX4_moves 65 = .ok (.aload_n 0, 1) := by decide +kernel
theorem dX4_moves_66 : decode cX4_moves 66 = .ok (.aload_n 0, 1) := by decide +kernel
theorem dX4_moves_67 : decode cX4_moves 67 = .ok (.iload 4, 2) := by decide +kernel
theorem dX4_moves_69 : decode cX4_moves 69 = .ok (.iload_n 3, 1) := by decide +kernel
theorem dX4_moves_70 : decode cX4_moves 70 = .ok (.invokevirtual 24, 3) := by decide +kernel
theorem dX4_moves_73 : decode cX4_moves 73 = .ok (.invokevirtual 28, 3) := by decide +kernel
theorem dX4_moves_76 : decode cX4_moves 76 = .ok (.ifCond .ne 22, 3) := by decide +kernel
theorem dX4_moves_79 : decode cX4_moves 79 = .ok (.aload_n 0, 1) := by decide +kernel
theorem dX4_moves_80 : decode cX4_moves 80 = .ok (.getfield 7, 3) := by decide +kernel
theorem dX4_moves_83 : decode cX4_moves 83 = .ok (.bipush 7, 2) := by decide +kernel
theorem dX4_moves_85 : decode cX4_moves 85 = .ok (.dup2, 1) := by decide +kernel
theorem dX4_moves_86 : decode cX4_moves 86 = .ok (.iaload, 1) := by decide +kernel
theorem dX4_moves_87 : decode cX4_moves 87 = .ok (.iconst 1, 1) := by decide +kernel
theorem dX4_moves_88 : decode cX4_moves 88 = .ok (.iadd, 1) := by decide +kernel
theorem dX4_moves_89 : decode cX4_moves 89 = .ok (.iastore, 1) := by decide +kernel
theorem dX4_moves_90 : decode cX4_moves 90 = .ok (.aload_n 0, 1) := by decide +kernel
theorem dX4_moves_91 : decode cX4_moves 91 = .ok (.iload_n 1, 1) := by decide +kernel
theorem dX4_moves_92 : decode cX4_moves 92 = .ok (.invokevirtual 56, 3) := by decide +kernel
theorem dX4_moves_95 : decode cX4_moves 95 = .ok (.goto 47, 3) := by decide +kernel
theorem dX4_moves_98 : decode cX4_moves 98 = .ok (.aload_n 0, 1) := by decide +kernel
theorem dX4_moves_99 : decode cX4_moves 99 = .ok (.iload 4, 2) := by decide +kernel
theorem dX4_moves_101 : decode cX4_moves 101 = .ok (.iload_n 3, 1) := by decide +kernel
theorem dX4_moves_102 : decode cX4_moves 102 = .ok (.invokevirtual 36, 3) := by decide +kernel
theorem dX4_moves_105 : decode cX4_moves 105 = .ok (.istore 5, 2) := by decide +kernel
theorem dX4_moves_107 : decode cX4_moves 107 = .ok (.aload_n 0, 1) := by decide +kernel
theorem dX4_moves_108 : decode cX4_moves 108 = .ok (.iload_n 1, 1) := by decide +kernel
theorem dX4_moves_109 : decode cX4_moves 109 = .ok (.iconst 2, 1) := by decide +kernel
theorem dX4_moves_110 : decode cX4_moves 110 = .ok (.invokevirtual 46, 3) := by decide +kernel
theorem dX4_moves_113 : decode cX4_moves 113 = .ok (.istore 6, 2) := by decide +kernel
theorem dX4_moves_115 : decode cX4_moves 115 = .ok (.aload_n 0, 1) := by decide +kernel
theorem dX4_moves_116 : decode cX4_moves 116 = .ok (.iload_n 1, 1) := by decide +kernel
theorem dX4_moves_117 : decode cX4_moves 117 = .ok (.iconst 2, 1) := by decide +kernel
theorem dX4_moves_118 : decode cX4_moves 118 = .ok (.iload_n 2, 1) := by decide +kernel
theorem dX4_moves_119 : decode cX4_moves 119 = .ok (.ifCond .eq 13, 3) := by decide +kernel
theorem dX4_moves_122 : decode cX4_moves 122 = .ok (.iload 6, 2) := by decide +kernel
theorem dX4_moves_124 : decode cX4_moves 124 = .ok (.iload 5, 2) := by decide +kernel
theorem dX4_moves_126 : decode cX4_moves 126 = .ok (.invokestatic 39, 3) := by decide +kernel
theorem dX4_moves_129 : decode cX4_moves 129 = .ok (.goto 10, 3) := by decide +kernel
theorem dX4_moves_132 : decode cX4_moves 132 = .ok (.iload 6, 2) := by decide +kernel
theorem dX4_moves_134 : decode cX4_moves 134 = .ok (.iload 5, 2) := by decide +kernel
theorem dX4_moves_136 : decode cX4_moves 136 = .ok (.invokestatic 53, 3) := by decide +kernel
theorem dX4_moves_139 : decode cX4_moves 139 = .ok (.invokevirtual 32, 3) := by decide +kernel
theorem dX4_moves_142 : decode cX4_moves 142 = .ok (.return_, 1) := by decide +kernel
theorem dX4_ticks_0 : decode cX4_ticks 0 = .ok (.iconst 0, 1) := by decide +kernel
theorem dX4_ticks_1 : decode cX4_ticks 1 = .ok (.istore_n 1, 1) := by decide +kernel
theorem dX4_ticks_2 : decode cX4_ticks 2 = .ok (.iload_n 1, 1) := by decide +kernel
theorem dX4_ticks_3 : decode cX4_ticks 3 = .ok (.aload_n 0, 1) := by decide +kernel
theorem dX4_ticks_4 : decode cX4_ticks 4 = .ok (.getfield 7, 3) := by decide +kernel
theorem dX4_ticks_7 : decode cX4_ticks 7 = .ok (.iconst 1, 1) := by decide +kernel
theorem dX4_ticks_8 : decode cX4_ticks 8 = .ok (.iaload, 1) := by decide +kernel
theorem dX4_ticks_9 : decode cX4_ticks 9 = .ok (.if_icmp .ge 14, 3) := by decide +kernel
theorem dX4_ticks_12 : decode cX4_ticks 12 = .ok (.aload_n 0, 1) := by decide +kernel
theorem dX4_ticks_13 : decode cX4_ticks 13 = .ok (.iload_n 1, 1) := by decide +kernel
theorem dX4_ticks_14 : decode cX4_ticks 14 = .ok (.invokevirtual 63, 3) := by decide +kernel
theorem dX4_ticks_17 : decode cX4_ticks 17 = .ok (.iinc 1 1, 3) := by decide +kernel
theorem dX4_ticks_20 : decode cX4_ticks 20 = .ok (.goto (-18), 3) := by decide +kernel
theorem dX4_ticks_23 : decode cX4_ticks 23 = .ok (.iconst 0, 1) := by decide +kernel
theorem dX4_ticks_24 : decode cX4_ticks 24 = .ok (.istore_n 1, 1) := by decide +kernel
theorem dX4_ticks_25 : decode cX4_ticks 25 = .ok (.iconst 0, 1) := by decide +kernel
theorem dX4_ticks_26 : decode cX4_ticks 26 = .ok (.istore_n 2, 1) := by decide +kernel
theorem dX4_ticks_27 : decode cX4_ticks 27 = .ok (.iload_n 2, 1) := by decide +kernel
theorem dX4_ticks_28 : decode cX4_ticks 28 = .ok (.aload_n 0, 1) := by decide +kernel
theorem dX4_ticks_29 : decode cX4_ticks 29 = .ok (.getfield 7, 3) := by decide +kernel
theorem dX4_ticks_32 : decode cX4_ticks 32 = .ok (.iconst 1, 1) := by decide +kernel
theorem dX4_ticks_33 : decode cX4_ticks 33 = .ok (.iaload, 1) := by decide +kernel
theorem dX4_ticks_34 : decode cX4_ticks 34 = .ok (.if_icmp .ge 47, 3) := by decide +kernel
theorem dX4_ticks_37 : decode cX4_ticks 37 = .ok (.aload_n 0, 1) := by decide +kernel
theorem dX4_ticks_38 : decode cX4_ticks 38 = .ok (.iload_n 2, 1) := by decide +kernel
theorem dX4_ticks_39 : decode cX4_ticks 39 = .ok (.iconst 0, 1) := by decide +kernel
theorem dX4_ticks_40 : decode cX4_ticks 40 = .ok (.invokevirtual 46, 3) := by decide +kernel
theorem dX4_ticks_43 : decode cX4_ticks 43 = .ok (.iconst (-1), 1) := by decide +kernel
theorem dX4_ticks_44 : decode cX4_ticks 44 = .ok (.if_icmp .eq 31, 3) := by decide +kernel
theorem dX4_ticks_47 : decode cX4_ticks 47 = .ok (.iconst 0, 1) := by decide +kernel
theorem dX4_ticks_48 : decode cX4_ticks 48 = .ok (.istore_n 3, 1) := by decide +kernel
theorem dX4_ticks_49 : decode cX4_ticks 49 = .ok (.iload_n 3, 1) := by decide +kernel
theorem dX4_ticks_50 : decode cX4_ticks 50 = .ok (.iconst 4, 1) := by decide +kernel
theorem dX4_ticks_51 : decode cX4_ticks 51 = .ok (.if_icmp .ge 21, 3) := by decide +kernel
theorem dX4_ticks_54 : decode cX4_ticks 54 = .ok (.aload_n 0, 1) := by decide +kernel
theorem dX4_ticks_55 : decode cX4_ticks 55 = .ok (.iload_n 1, 1) := by decide +kernel
theorem dX4_ticks_56 : decode cX4_ticks 56 = .ok (.iload_n 3, 1) := by decide +kernel
theorem dX4_ticks_57 : decode cX4_ticks 57 = .ok (.aload_n 0, 1) := by decide +kernel
theorem dX4_ticks_58 : decode cX4_ticks 58 = .ok (.iload_n 2, 1) := by decide +kernel
theorem dX4_ticks_59 : decode cX4_ticks 59 = .ok (.iload_n 3, 1) := by decide +kernel
theorem dX4_ticks_60 : decode cX4_ticks 60 = .ok (.invokevirtual 46, 3) := by decide +kernel
theorem dX4_ticks_63 : decode cX4_ticks 63 = .ok (.invokevirtual 32, 3) := by decide +kernel
theorem dX4_ticks_66 : decode cX4_ticks 66 = .ok (.iinc 3 1, 3) := by decide +kernel
theorem dX4_ticks_69 : decode cX4_ticks 69 = .ok (.goto (-20), 3) := by decide +kernel
theorem dX4_ticks_72 : decode cX4_ticks 72 = .ok (.iinc 1 1, 3) := by decide +kernel
theorem dX4_ticks_75 : decode cX4_ticks 75 = .ok (.iinc 2 1, 3) := by decide +kernel
theorem dX4_ticks_78 : decode cX4_ticks 78 = .ok (.goto (-51), 3) := by decide +kernel
theorem dX4_ticks_81 : decode cX4_ticks 81 = .ok (.aload_n 0, 1) := by decide +kernel
theorem dX4_ticks_82 : decode cX4_ticks 82 = .ok (.getfield 7, 3) := by decide +kernel
theorem dX4_ticks_85 : decode cX4_ticks 85 = .ok (.iconst 1, 1) := by decide +kernel
theorem dX4_ticks_86 : decode cX4_ticks 86 = .ok (.iload_n 1, 1) := by decide +kernel
theorem dX4_ticks_87 : decode cX4_ticks 87 = .ok (.iastore, 1) := by decide +kernel
theorem dX4_ticks_88 : decode cX4_ticks 88 = .ok (.return_, 1) := by decide +kernel
theorem dX4_passes_0 : decode cX4_passes 0 = .ok (.aload_n 0, 1) := by decide +kernel
theorem dX4_passes_1 : decode cX4_passes 1 = .ok (.getfield 7, 3) := by decide +kernel
theorem dX4_passes_4 : decode cX4_passes 4 = .ok (.iconst 4, 1) := by decide +kernel
theorem dX4_passes_5 : decode cX4_passes 5 = .ok (.iaload, 1) := by decide +kernel
theorem dX4_passes_6 : decode cX4_passes 6 = .ok (.aload_n 0, 1) := by decide +kernel
theorem dX4_passes_7 : decode cX4_passes 7 = .ok (.getfield 7, 3) := by decide +kernel
theorem dX4_passes_10 : decode cX4_passes 10 = .ok (.bipush 6, 2) := by decide +kernel
theorem dX4_passes_12 : decode cX4_passes 12 = .ok (.iaload, 1) := by decide +kernel
theorem dX4_passes_13 : decode cX4_passes 13 = .ok (.iadd, 1) := by decide +kernel
theorem dX4_passes_14 : decode cX4_passes 14 = .ok (.istore_n 2, 1) := by decide +kernel
theorem dX4_passes_15 : decode cX4_passes 15 = .ok (.iconst 0, 1) := by decide +kernel
theorem dX4_passes_16 : decode cX4_passes 16 = .ok (.istore_n 3, 1) := by decide +kernel
theorem dX4_passes_17 : decode cX4_passes 17 = .ok (.iload_n 3, 1) := by decide +kernel
theorem dX4_passes_18 : decode cX4_passes 18 = .ok (.iload_n 1, 1) := by decide +kernel
theorem dX4_passes_19 : decode cX4_passes 19 = .ok (.if_icmp .ge 13, 3) := by decide +kernel
theorem dX4_passes_22 : decode cX4_passes 22 = .ok (.aload_n 0, 1) := by decide +kernel
theorem dX4_passes_23 : decode cX4_passes 23 = .ok (.invokevirtual 66, 3) := by decide +kernel
theorem dX4_passes_26 : decode cX4_passes 26 = .ok (.iinc 3 1, 3) := by decide +kernel
theorem dX4_passes_29 : decode cX4_passes 29 = .ok (.goto (-12), 3) := by decide +kernel
theorem dX4_passes_32 : decode cX4_passes 32 = .ok (.aload_n 0, 1) := by decide +kernel
theorem dX4_passes_33 : decode cX4_passes 33 = .ok (.getfield 7, 3) := by decide +kernel
theorem dX4_passes_36 : decode cX4_passes 36 = .ok (.iconst 4, 1) := by decide +kernel
theorem dX4_passes_37 : decode cX4_passes 37 = .ok (.iaload, 1) := by decide +kernel
theorem dX4_passes_38 : decode cX4_passes 38 = .ok (.aload_n 0, 1) := by decide +kernel
theorem dX4_passes_39 : decode cX4_passes 39 = .ok (.getfield 7, 3) := by decide +kernel
theorem dX4_passes_42 : decode cX4_passes 42 = .ok (.bipush 6, 2) := by decide +kernel
theorem dX4_passes_44 : decode cX4_passes 44 = .ok (.iaload, 1) := by decide +kernel
theorem dX4_passes_45 : decode cX4_passes 45 = .ok (.iadd, 1) := by decide +kernel
theorem dX4_passes_46 : decode cX4_passes 46 = .ok (.iload_n 2, 1) := by decide +kernel
theorem dX4_passes_47 : decode cX4_passes 47 = .ok (.isub, 1) := by decide +kernel
theorem dX4_passes_48 : decode cX4_passes 48 = .ok (.ireturn, 1) := by decide +kernel
theorem dX4_arrivesIn_0 : decode cX4_arrivesIn 0 = .ok (.aload_n 0, 1) := by decide +kernel
theorem dX4_arrivesIn_1 : decode cX4_arrivesIn 1 = .ok (.iload_n 1, 1) := by decide +kernel
theorem dX4_arrivesIn_2 : decode cX4_arrivesIn 2 = .ok (.iconst 0, 1) := by decide +kernel
theorem dX4_arrivesIn_3 : decode cX4_arrivesIn 3 = .ok (.invokevirtual 46, 3) := by decide +kernel
theorem dX4_arrivesIn_6 : decode cX4_arrivesIn 6 = .ok (.istore_n 3, 1) := by decide +kernel
theorem dX4_arrivesIn_7 : decode cX4_arrivesIn 7 = .ok (.aload_n 0, 1) := by decide +kernel
theorem dX4_arrivesIn_8 : decode cX4_arrivesIn 8 = .ok (.iload_n 1, 1) := by decide +kernel
theorem dX4_arrivesIn_9 : decode cX4_arrivesIn 9 = .ok (.iconst 1, 1) := by decide +kernel
theorem dX4_arrivesIn_10 : decode cX4_arrivesIn 10 = .ok (.invokevirtual 46, 3) := by decide +kernel
theorem dX4_arrivesIn_13 : decode cX4_arrivesIn 13 = .ok (.istore 4, 2) := by decide +kernel
theorem dX4_arrivesIn_15 : decode cX4_arrivesIn 15 = .ok (.aload_n 0, 1) := by decide +kernel
theorem dX4_arrivesIn_16 : decode cX4_arrivesIn 16 = .ok (.iload_n 1, 1) := by decide +kernel
theorem dX4_arrivesIn_17 : decode cX4_arrivesIn 17 = .ok (.iconst 3, 1) := by decide +kernel
theorem dX4_arrivesIn_18 : decode cX4_arrivesIn 18 = .ok (.invokevirtual 46, 3) := by decide +kernel
theorem dX4_arrivesIn_21 : decode cX4_arrivesIn 21 = .ok (.iconst 1, 1) := by decide +kernel
theorem dX4_arrivesIn_22 : decode cX4_arrivesIn 22 = .ok (.if_icmp .ne 7, 3) := by decide +kernel
theorem dX4_arrivesIn_25 : decode cX4_arrivesIn 25 = .ok (.iconst 1, 1) := by decide +kernel
theorem dX4_arrivesIn_26 : decode cX4_arrivesIn 26 = .ok (.goto 4, 3) := by decide +kernel
theorem dX4_arrivesIn_29 : decode cX4_arrivesIn 29 = .ok (.iconst 0, 1) := by decide +kernel
theorem dX4_arrivesIn_30 : decode cX4_arrivesIn 30 = .ok (.istore 5, 2) := by decide +kernel
theorem dX4_arrivesIn_32 : decode cX4_arrivesIn 32 = .ok (.iconst 1, 1) := by decide +kernel
theorem dX4_arrivesIn_33 : decode cX4_arrivesIn 33 = .ok (.istore 6, 2) := by decide +kernel
theorem dX4_arrivesIn_35 : decode cX4_arrivesIn 35 = .ok (.iload 6, 2) := by decide +kernel
theorem dX4_arrivesIn_37 : decode cX4_arrivesIn 37 = .ok (.iconst 4, 1) := by decide +kernel
theorem dX4_arrivesIn_38 : decode cX4_arrivesIn 38 = .ok (.if_icmp .ge 74, 3) := by decide +kernel
theorem dX4_arrivesIn_41 : decode cX4_arrivesIn 41 = .ok (.iload 5, 2) := by decide +kernel
theorem dX4_arrivesIn_43 : decode cX4_arrivesIn 43 = .ok (.ifCond .eq 18, 3) := by decide +kernel
theorem dX4_arrivesIn_46 : decode cX4_arrivesIn 46 = .ok (.iload 6, 2) := by decide +kernel
theorem dX4_arrivesIn_48 : decode cX4_arrivesIn 48 = .ok (.iload 4, 2) := by decide +kernel
theorem dX4_arrivesIn_50 : decode cX4_arrivesIn 50 = .ok (.if_icmp .ge 7, 3) := by decide +kernel
theorem dX4_arrivesIn_53 : decode cX4_arrivesIn 53 = .ok (.iconst 1, 1) := by decide +kernel
theorem dX4_arrivesIn_54 : decode cX4_arrivesIn 54 = .ok (.goto 19, 3) := by decide +kernel
theorem dX4_arrivesIn_57 : decode cX4_arrivesIn 57 = .ok (.iconst 0, 1) := by decide +kernel
theorem dX4_arrivesIn_58 : decode cX4_arrivesIn 58 = .ok (.goto 15, 3) := by decide +kernel
theorem dX4_arrivesIn_61 : decode cX4_arrivesIn 61 = .ok (.iload 6, 2) := by decide +kernel
theorem dX4_arrivesIn_63 : decode cX4_arrivesIn 63 = .ok (.iload 4, 2) := by decide +kernel
theorem dX4_arrivesIn_65 : decode cX4_arrivesIn 65 = .ok (.if_icmp .le 7, 3) := by decide +kernel
theorem dX4_arrivesIn_68 : decode cX4_arrivesIn 68 = .ok (.iconst 1, 1) := by decide +kernel
theorem dX4_arrivesIn_69 : decode cX4_arrivesIn 69 = .ok (.goto 4, 3) := by decide +kernel
theorem dX4_arrivesIn_72 : decode cX4_arrivesIn 72 = .ok (.iconst 0, 1) := by decide +kernel
theorem dX4_arrivesIn_73 : decode cX4_arrivesIn 73 = .ok (.istore 7, 2) := by decide +kernel
theorem dX4_arrivesIn_75 : decode cX4_arrivesIn 75 = .ok (.aload_n 0, 1) := by decide +kernel
theorem dX4_arrivesIn_76 : decode cX4_arrivesIn 76 = .ok (.iload_n 3, 1) := by decide +kernel
theorem dX4_arrivesIn_77 : decode cX4_arrivesIn 77 = .ok (.iload 6, 2) := by decide +kernel
theorem dX4_arrivesIn_79 : decode cX4_arrivesIn 79 = .ok (.invokevirtual 24, 3) := by decide +kernel
theorem dX4_arrivesIn_82 : decode cX4_arrivesIn 82 = .ok (.istore 8, 2) := by decide +kernel
theorem dX4_arrivesIn_84 : decode cX4_arrivesIn 84 = .ok (.iload 7, 2) := by decide +kernel
theorem dX4_arrivesIn_86 : decode cX4_arrivesIn 86 = .ok (.ifCond .eq 20, 3) := by decide +kernel
theorem dX4_arrivesIn_89 : decode cX4_arrivesIn 89 = .ok (.aload_n 0, 1) := by decide +kernel
theorem dX4_arrivesIn_90 : decode cX4_arrivesIn 90 = .ok (.iload 8, 2) := by decide +kernel
theorem dX4_arrivesIn_92 : decode cX4_arrivesIn 92 = .ok (.invokevirtual 28, 3) := by decide +kernel
theorem dX4_arrivesIn_95 : decode cX4_arrivesIn 95 = .ok (.ifCond .eq 9, 3) := by decide +kernel
theorem dX4_arrivesIn_98 : decode cX4_arrivesIn 98 = .ok (.iload 8, 2) := by decide +kernel
theorem dX4_arrivesIn_100 : decode cX4_arrivesIn 100 = .ok (.iload_n 2, 1) := by decide +kernel
theorem dX4_arrivesIn_101 : decode cX4_arrivesIn 101 = .ok (.if_icmp .ne 5, 3) := by decide +kernel
theorem dX4_arrivesIn_104 : decode cX4_arrivesIn 104 = .ok (.iconst (-1), 1) := by decide +kernel
theorem dX4_arrivesIn_105 : decode cX4_arrivesIn 105 = .ok (.ireturn, 1) := by decide +kernel
theorem dX4_arrivesIn_106 : decode cX4_arrivesIn 106 = .ok (.iinc 6 1, 3) := by decide +kernel
theorem dX4_arrivesIn_109 : decode cX4_arrivesIn 109 = .ok (.goto (-74), 3) := by decide +kernel
theorem dX4_arrivesIn_112 : decode cX4_arrivesIn 112 = .ok (.iload 5, 2) := by decide +kernel
theorem dX4_arrivesIn_114 : decode cX4_arrivesIn 114 = .ok (.ifCond .eq 8, 3) := by decide +kernel
theorem dX4_arrivesIn_117 : decode cX4_arrivesIn 117 = .ok (.iload 4, 2) := by decide +kernel
theorem dX4_arrivesIn_119 : decode cX4_arrivesIn 119 = .ok (.goto 7, 3) := by decide +kernel
theorem dX4_arrivesIn_122 : decode cX4_arrivesIn 122 = .ok (.iconst 4, 1) := by decide +kernel
theorem dX4_arrivesIn_123 : decode cX4_arrivesIn 123 = .ok (.iload 4, 2) := by decide +kernel
theorem dX4_arrivesIn_125 : decode cX4_arrivesIn 125 = .ok (.isub, 1) := by decide +kernel
theorem dX4_arrivesIn_126 : decode cX4_arrivesIn 126 = .ok (.ireturn, 1) := by decide +kernel
theorem dX4_lays_0 : decode cX4_lays 0 = .ok (.bipush 24, 2) := by decide +kernel
theorem dX4_lays_2 : decode cX4_lays 2 = .ok (.bipush 7, 2) := by decide +kernel
theorem dX4_lays_4 : decode cX4_lays 4 = .ok (.aload_n 0, 1) := by decide +kernel
theorem dX4_lays_5 : decode cX4_lays 5 = .ok (.getfield 7, 3) := by decide +kernel
theorem dX4_lays_8 : decode cX4_lays 8 = .ok (.iconst 0, 1) := by decide +kernel
theorem dX4_lays_9 : decode cX4_lays 9 = .ok (.iaload, 1) := by decide +kernel
theorem dX4_lays_10 : decode cX4_lays 10 = .ok (.imul, 1) := by decide +kernel
theorem dX4_lays_11 : decode cX4_lays 11 = .ok (.iadd, 1) := by decide +kernel
theorem dX4_lays_12 : decode cX4_lays 12 = .ok (.istore 5, 2) := by decide +kernel
theorem dX4_lays_14 : decode cX4_lays 14 = .ok (.aload_n 0, 1) := by decide +kernel
theorem dX4_lays_15 : decode cX4_lays 15 = .ok (.getfield 7, 3) := by decide +kernel
theorem dX4_lays_18 : decode cX4_lays 18 = .ok (.iload 5, 2) := by decide +kernel
theorem dX4_lays_20 : decode cX4_lays 20 = .ok (.iload_n 1, 1) := by decide +kernel
theorem dX4_lays_21 : decode cX4_lays 21 = .ok (.iastore, 1) := by decide +kernel
theorem dX4_lays_22 : decode cX4_lays 22 = .ok (.aload_n 0, 1) := by decide +kernel
theorem dX4_lays_23 : decode cX4_lays 23 = .ok (.getfield 7, 3) := by decide +kernel
theorem dX4_lays_26 : decode cX4_lays 26 = .ok (.iload 5, 2) := by decide +kernel
theorem dX4_lays_28 : decode cX4_lays 28 = .ok (.iconst 1, 1) := by decide +kernel
theorem dX4_lays_29 : decode cX4_lays 29 = .ok (.iadd, 1) := by decide +kernel
theorem dX4_lays_30 : decode cX4_lays 30 = .ok (.iload_n 2, 1) := by decide +kernel
theorem dX4_lays_31 : decode cX4_lays 31 = .ok (.iastore, 1) := by decide +kernel
theorem dX4_lays_32 : decode cX4_lays 32 = .ok (.aload_n 0, 1) := by decide +kernel
theorem dX4_lays_33 : decode cX4_lays 33 = .ok (.getfield 7, 3) := by decide +kernel
theorem dX4_lays_36 : decode cX4_lays 36 = .ok (.iload 5, 2) := by decide +kernel
theorem dX4_lays_38 : decode cX4_lays 38 = .ok (.iconst 2, 1) := by decide +kernel
theorem dX4_lays_39 : decode cX4_lays 39 = .ok (.iadd, 1) := by decide +kernel
theorem dX4_lays_40 : decode cX4_lays 40 = .ok (.iload_n 3, 1) := by decide +kernel
theorem dX4_lays_41 : decode cX4_lays 41 = .ok (.iastore, 1) := by decide +kernel
theorem dX4_lays_42 : decode cX4_lays 42 = .ok (.aload_n 0, 1) := by decide +kernel
theorem dX4_lays_43 : decode cX4_lays 43 = .ok (.getfield 7, 3) := by decide +kernel
theorem dX4_lays_46 : decode cX4_lays 46 = .ok (.iload 5, 2) := by decide +kernel
theorem dX4_lays_48 : decode cX4_lays 48 = .ok (.iconst 3, 1) := by decide +kernel
theorem dX4_lays_49 : decode cX4_lays 49 = .ok (.iadd, 1) := by decide +kernel
theorem dX4_lays_50 : decode cX4_lays 50 = .ok (.aload_n 0, 1) := by decide +kernel
theorem dX4_lays_51 : decode cX4_lays 51 = .ok (.getfield 7, 3) := by decide +kernel
theorem dX4_lays_54 : decode cX4_lays 54 = .ok (.bipush 16, 2) := by decide +kernel
theorem dX4_lays_56 : decode cX4_lays 56 = .ok (.iload_n 1, 1) := by decide +kernel
theorem dX4_lays_57 : decode cX4_lays 57 = .ok (.iadd, 1) := by decide +kernel
theorem dX4_lays_58 : decode cX4_lays 58 = .ok (.iaload, 1) := by decide +kernel
theorem dX4_lays_59 : decode cX4_lays 59 = .ok (.iastore, 1) := by decide +kernel
theorem dX4_lays_60 : decode cX4_lays 60 = .ok (.aload_n 0, 1) := by decide +kernel
theorem dX4_lays_61 : decode cX4_lays 61 = .ok (.getfield 7, 3) := by decide +kernel
theorem dX4_lays_64 : decode cX4_lays 64 = .ok (.iload 5, 2) := by decide +kernel
theorem dX4_lays_66 : decode cX4_lays 66 = .ok (.iconst 4, 1) := by decide +kernel
theorem dX4_lays_67 : decode cX4_lays 67 = .ok (.iadd, 1) := by decide +kernel
theorem dX4_lays_68 : decode cX4_lays 68 = .ok (.aload_n 0, 1) := by decide +kernel
theorem dX4_lays_69 : decode cX4_lays 69 = .ok (.getfield 7, 3) := by decide +kernel
theorem dX4_lays_72 : decode cX4_lays 72 = .ok (.bipush 16, 2) := by decide +kernel
theorem dX4_lays_74 : decode cX4_lays 74 = .ok (.iload_n 2, 1) := by decide +kernel
theorem dX4_lays_75 : decode cX4_lays 75 = .ok (.iadd, 1) := by decide +kernel
theorem dX4_lays_76 : decode cX4_lays 76 = .ok (.iaload, 1) := by decide +kernel
theorem dX4_lays_77 : decode cX4_lays 77 = .ok (.iastore, 1) := by decide +kernel
theorem dX4_lays_78 : decode cX4_lays 78 = .ok (.aload_n 0, 1) := by decide +kernel
theorem dX4_lays_79 : decode cX4_lays 79 = .ok (.getfield 7, 3) := by decide +kernel
theorem dX4_lays_82 : decode cX4_lays 82 = .ok (.iload 5, 2) := by decide +kernel
theorem dX4_lays_84 : decode cX4_lays 84 = .ok (.iconst 5, 1) := by decide +kernel
theorem dX4_lays_85 : decode cX4_lays 85 = .ok (.iadd, 1) := by decide +kernel
theorem dX4_lays_86 : decode cX4_lays 86 = .ok (.aload_n 0, 1) := by decide +kernel
theorem dX4_lays_87 : decode cX4_lays 87 = .ok (.getfield 7, 3) := by decide +kernel
theorem dX4_lays_90 : decode cX4_lays 90 = .ok (.bipush 16, 2) := by decide +kernel
theorem dX4_lays_92 : decode cX4_lays 92 = .ok (.iload_n 3, 1) := by decide +kernel
theorem dX4_lays_93 : decode cX4_lays 93 = .ok (.iadd, 1) := by decide +kernel
theorem dX4_lays_94 : decode cX4_lays 94 = .ok (.iaload, 1) := by decide +kernel
theorem dX4_lays_95 : decode cX4_lays 95 = .ok (.iastore, 1) := by decide +kernel
theorem dX4_lays_96 : decode cX4_lays 96 = .ok (.aload_n 0, 1) := by decide +kernel
theorem dX4_lays_97 : decode cX4_lays 97 = .ok (.getfield 7, 3) := by decide +kernel
theorem dX4_lays_100 : decode cX4_lays 100 = .ok (.iload 5, 2) := by decide +kernel
theorem dX4_lays_102 : decode cX4_lays 102 = .ok (.bipush 6, 2) := by decide +kernel
theorem dX4_lays_104 : decode cX4_lays 104 = .ok (.iadd, 1) := by decide +kernel
theorem dX4_lays_105 : decode cX4_lays 105 = .ok (.iload 4, 2) := by decide +kernel
theorem dX4_lays_107 : decode cX4_lays 107 = .ok (.iastore, 1) := by decide +kernel
theorem dX4_lays_108 : decode cX4_lays 108 = .ok (.aload_n 0, 1) := by decide +kernel
theorem dX4_lays_109 : decode cX4_lays 109 = .ok (.getfield 7, 3) := by decide +kernel
theorem dX4_lays_112 : decode cX4_lays 112 = .ok (.iconst 0, 1) := by decide +kernel
theorem dX4_lays_113 : decode cX4_lays 113 = .ok (.dup2, 1) := by decide +kernel
theorem dX4_lays_114 : decode cX4_lays 114 = .ok (.iaload, 1) := by decide +kernel
theorem dX4_lays_115 : decode cX4_lays 115 = .ok (.iconst 1, 1) := by decide +kernel
theorem dX4_lays_116 : decode cX4_lays 116 = .ok (.iadd, 1) := by decide +kernel
theorem dX4_lays_117 : decode cX4_lays 117 = .ok (.iastore, 1) := by decide +kernel
theorem dX4_lays_118 : decode cX4_lays 118 = .ok (.aload_n 0, 1) := by decide +kernel
theorem dX4_lays_119 : decode cX4_lays 119 = .ok (.getfield 7, 3) := by decide +kernel
theorem dX4_lays_122 : decode cX4_lays 122 = .ok (.iconst 0, 1) := by decide +kernel
theorem dX4_lays_123 : decode cX4_lays 123 = .ok (.iaload, 1) := by decide +kernel
theorem dX4_lays_124 : decode cX4_lays 124 = .ok (.iconst 1, 1) := by decide +kernel
theorem dX4_lays_125 : decode cX4_lays 125 = .ok (.isub, 1) := by decide +kernel
theorem dX4_lays_126 : decode cX4_lays 126 = .ok (.ireturn, 1) := by decide +kernel
theorem dX4_canLay_0 : decode cX4_canLay 0 = .ok (.aload_n 0, 1) := by decide +kernel
theorem dX4_canLay_1 : decode cX4_canLay 1 = .ok (.getfield 7, 3) := by decide +kernel
theorem dX4_canLay_4 : decode cX4_canLay 4 = .ok (.iconst 0, 1) := by decide +kernel
theorem dX4_canLay_5 : decode cX4_canLay 5 = .ok (.iaload, 1) := by decide +kernel
theorem dX4_canLay_6 : decode cX4_canLay 6 = .ok (.bipush 6, 2) := by decide +kernel
theorem dX4_canLay_8 : decode cX4_canLay 8 = .ok (.if_icmp .ge 31, 3) := by decide +kernel
theorem dX4_canLay_11 : decode cX4_canLay 11 = .ok (.aload_n 0, 1) := by decide +kernel
theorem dX4_canLay_12 : decode cX4_canLay 12 = .ok (.iload_n 1, 1) := by decide +kernel
theorem dX4_canLay_13 : decode cX4_canLay 13 = .ok (.invokevirtual 28, 3) := by decide +kernel
theorem dX4_canLay_16 : decode cX4_canLay 16 = .ok (.ifCond .eq 23, 3) := by decide +kernel
theorem dX4_canLay_19 : decode cX4_canLay 19 = .ok (.aload_n 0, 1) := by decide +kernel
theorem dX4_canLay_20 : decode cX4_canLay 20 = .ok (.iload_n 2, 1) := by decide +kernel
theorem dX4_canLay_21 : decode cX4_canLay 21 = .ok (.invokevirtual 28, 3) := by decide +kernel
theorem dX4_canLay_24 : decode cX4_canLay 24 = .ok (.ifCond .eq 15, 3) := by decide +kernel
theorem dX4_canLay_27 : decode cX4_canLay 27 = .ok (.aload_n 0, 1) := by decide +kernel
theorem dX4_canLay_28 : decode cX4_canLay 28 = .ok (.iload_n 3, 1) := by decide +kernel
theorem dX4_canLay_29 : decode cX4_canLay 29 = .ok (.invokevirtual 28, 3) := by decide +kernel
theorem dX4_canLay_32 : decode cX4_canLay 32 = .ok (.ifCond .eq 7, 3) := by decide +kernel
theorem dX4_canLay_35 : decode cX4_canLay 35 = .ok (.iconst 1, 1) := by decide +kernel
theorem dX4_canLay_36 : decode cX4_canLay 36 = .ok (.goto 4, 3) := by decide +kernel
theorem dX4_canLay_39 : decode cX4_canLay 39 = .ok (.iconst 0, 1) := by decide +kernel
theorem dX4_canLay_40 : decode cX4_canLay 40 = .ok (.ireturn, 1) := by decide +kernel
theorem dX4_canTakeUp_0 : decode cX4_canTakeUp 0 = .ok (.aload_n 0, 1) := by decide +kernel
theorem dX4_canTakeUp_1 : decode cX4_canTakeUp 1 = .ok (.getfield 7, 3) := by decide +kernel
theorem dX4_canTakeUp_4 : decode cX4_canTakeUp 4 = .ok (.iconst 0, 1) := by decide +kernel
theorem dX4_canTakeUp_5 : decode cX4_canTakeUp 5 = .ok (.iaload, 1) := by decide +kernel
theorem dX4_canTakeUp_6 : decode cX4_canTakeUp 6 = .ok (.ifCond .le 7, 3) := by decide +kernel
theorem dX4_canTakeUp_9 : decode cX4_canTakeUp 9 = .ok (.iconst 1, 1) := by decide +kernel
theorem dX4_canTakeUp_10 : decode cX4_canTakeUp 10 = .ok (.goto 4, 3) := by decide +kernel
theorem dX4_canTakeUp_13 : decode cX4_canTakeUp 13 = .ok (.iconst 0, 1) := by decide +kernel
theorem dX4_canTakeUp_14 : decode cX4_canTakeUp 14 = .ok (.istore_n 1, 1) := by decide +kernel
theorem dX4_canTakeUp_15 : decode cX4_canTakeUp 15 = .ok (.iconst 0, 1) := by decide +kernel
theorem dX4_canTakeUp_16 : decode cX4_canTakeUp 16 = .ok (.istore_n 2, 1) := by decide +kernel
theorem dX4_canTakeUp_17 : decode cX4_canTakeUp 17 = .ok (.iload_n 2, 1) := by decide +kernel
theorem dX4_canTakeUp_18 : decode cX4_canTakeUp 18 = .ok (.aload_n 0, 1) := by decide +kernel
theorem dX4_canTakeUp_19 : decode cX4_canTakeUp 19 = .ok (.getfield 7, 3) := by decide +kernel
theorem dX4_canTakeUp_22 : decode cX4_canTakeUp 22 = .ok (.iconst 1, 1) := by decide +kernel
theorem dX4_canTakeUp_23 : decode cX4_canTakeUp 23 = .ok (.iaload, 1) := by decide +kernel
theorem dX4_canTakeUp_24 : decode cX4_canTakeUp 24 = .ok (.if_icmp .ge 36, 3) := by decide +kernel
theorem dX4_canTakeUp_27 : decode cX4_canTakeUp 27 = .ok (.iload_n 1, 1) := by decide +kernel
theorem dX4_canTakeUp_28 : decode cX4_canTakeUp 28 = .ok (.ifCond .eq 24, 3) := by decide +kernel
theorem dX4_canTakeUp_31 : decode cX4_canTakeUp 31 = .ok (.aload_n 0, 1) := by decide +kernel
theorem dX4_canTakeUp_32 : decode cX4_canTakeUp 32 = .ok (.iload_n 2, 1) := by decide +kernel
theorem dX4_canTakeUp_33 : decode cX4_canTakeUp 33 = .ok (.iconst 0, 1) := by decide +kernel
theorem dX4_canTakeUp_34 : decode cX4_canTakeUp 34 = .ok (.invokevirtual 46, 3) := by decide +kernel
theorem dX4_canTakeUp_37 : decode cX4_canTakeUp 37 = .ok (.aload_n 0, 1) := by decide +kernel
theorem dX4_canTakeUp_38 : decode cX4_canTakeUp 38 = .ok (.getfield 7, 3) := by decide +kernel
theorem dX4_canTakeUp_41 : decode cX4_canTakeUp 41 = .ok (.iconst 0, 1) := by decide +kernel
theorem dX4_canTakeUp_42 : decode cX4_canTakeUp 42 = .ok (.iaload, 1) := by decide +kernel
theorem dX4_canTakeUp_43 : decode cX4_canTakeUp 43 = .ok (.iconst 1, 1) := by decide +kernel
theorem dX4_canTakeUp_44 : decode cX4_canTakeUp 44 = .ok (.isub, 1) := by decide +kernel
theorem dX4_canTakeUp_45 : decode cX4_canTakeUp 45 = .ok (.if_icmp .eq 7, 3) := by decide +kernel
theorem dX4_canTakeUp_48 : decode cX4_canTakeUp 48 = .ok (.iconst 1, 1) := by decide +kernel
theorem dX4_canTakeUp_49 : decode cX4_canTakeUp 49 = .ok (.goto 4, 3) := by decide +kernel
theorem dX4_canTakeUp_52 : decode cX4_canTakeUp 52 = .ok (.iconst 0, 1) := by decide +kernel
theorem dX4_canTakeUp_53 : decode cX4_canTakeUp 53 = .ok (.istore_n 1, 1) := by decide +kernel
theorem dX4_canTakeUp_54 : decode cX4_canTakeUp 54 = .ok (.iinc 2 1, 3) := by decide +kernel
theorem dX4_canTakeUp_57 : decode cX4_canTakeUp 57 = .ok (.goto (-40), 3) := by decide +kernel
theorem dX4_canTakeUp_60 : decode cX4_canTakeUp 60 = .ok (.iload_n 1, 1) := by decide +kernel
theorem dX4_canTakeUp_61 : decode cX4_canTakeUp 61 = .ok (.ireturn, 1) := by decide +kernel
theorem dX4_isRoom_0 : decode cX4_isRoom 0 = .ok (.aload_n 0, 1) := by decide +kernel
theorem dX4_isRoom_1 : decode cX4_isRoom 1 = .ok (.getfield 7, 3) := by decide +kernel
theorem dX4_isRoom_4 : decode cX4_isRoom 4 = .ok (.iconst 1, 1) := by decide +kernel
theorem dX4_isRoom_5 : decode cX4_isRoom 5 = .ok (.iaload, 1) := by decide +kernel
theorem dX4_isRoom_6 : decode cX4_isRoom 6 = .ok (.bipush 12, 2) := by decide +kernel
theorem dX4_isRoom_8 : decode cX4_isRoom 8 = .ok (.if_icmp .ge 7, 3) := by decide +kernel
theorem dX4_isRoom_11 : decode cX4_isRoom 11 = .ok (.iconst 1, 1) := by decide +kernel
theorem dX4_isRoom_12 : decode cX4_isRoom 12 = .ok (.goto 4, 3) := by decide +kernel
theorem dX4_isRoom_15 : decode cX4_isRoom 15 = .ok (.iconst 0, 1) := by decide +kernel
theorem dX4_isRoom_16 : decode cX4_isRoom 16 = .ok (.ireturn, 1) := by decide +kernel
theorem dX4_canAnswer_0 : decode cX4_canAnswer 0 = .ok (.aload_n 0, 1) := by decide +kernel
theorem dX4_canAnswer_1 : decode cX4_canAnswer 1 = .ok (.getfield 7, 3) := by decide +kernel
theorem dX4_canAnswer_4 : decode cX4_canAnswer 4 = .ok (.bipush 118, 2) := by decide +kernel
theorem dX4_canAnswer_6 : decode cX4_canAnswer 6 = .ok (.iload_n 1, 1) := by decide +kernel
theorem dX4_canAnswer_7 : decode cX4_canAnswer 7 = .ok (.iadd, 1) := by decide +kernel
theorem dX4_canAnswer_8 : decode cX4_canAnswer 8 = .ok (.iaload, 1) := by decide +kernel
theorem dX4_canAnswer_9 : decode cX4_canAnswer 9 = .ok (.iconst (-1), 1) := by decide +kernel
theorem dX4_canAnswer_10 : decode cX4_canAnswer 10 = .ok (.if_icmp .eq 14, 3) := by decide +kernel
theorem dX4_canAnswer_13 : decode cX4_canAnswer 13 = .ok (.aload_n 0, 1) := by decide +kernel
theorem dX4_canAnswer_14 : decode cX4_canAnswer 14 = .ok (.invokevirtual 69, 3) := by decide +kernel
theorem dX4_canAnswer_17 : decode cX4_canAnswer 17 = .ok (.ifCond .eq 7, 3) := by decide +kernel
theorem dX4_canAnswer_20 : decode cX4_canAnswer 20 = .ok (.iconst 1, 1) := by decide +kernel
theorem dX4_canAnswer_21 : decode cX4_canAnswer 21 = .ok (.goto 4, 3) := by decide +kernel
theorem dX4_canAnswer_24 : decode cX4_canAnswer 24 = .ok (.iconst 0, 1) := by decide +kernel
theorem dX4_canAnswer_25 : decode cX4_canAnswer 25 = .ok (.ireturn, 1) := by decide +kernel
theorem dX4_copies_0 : decode cX4_copies 0 = .ok (.iconst 0, 1) := by decide +kernel
theorem dX4_copies_1 : decode cX4_copies 1 = .ok (.istore_n 3, 1) := by decide +kernel
theorem dX4_copies_2 : decode cX4_copies 2 = .ok (.iload_n 3, 1) := by decide +kernel
theorem dX4_copies_3 : decode cX4_copies 3 = .ok (.bipush 122, 2) := by decide +kernel
theorem dX4_copies_5 : decode cX4_copies 5 = .ok (.if_icmp .ge 31, 3) := by decide +kernel
theorem dX4_copies_8 : decode cX4_copies 8 = .ok (.aload_n 0, 1) := by decide +kernel
theorem dX4_copies_9 : decode cX4_copies 9 = .ok (.getfield 7, 3) := by decide +kernel
theorem dX4_copies_12 : decode cX4_copies 12 = .ok (.bipush 122, 2) := by decide +kernel
theorem dX4_copies_14 : decode cX4_copies 14 = .ok (.iload_n 2, 1) := by decide +kernel
theorem dX4_copies_15 : decode cX4_copies 15 = .ok (.imul, 1) := by decide +kernel
theorem dX4_copies_16 : decode cX4_copies 16 = .ok (.iload_n 3, 1) := by decide +kernel
theorem dX4_copies_17 : decode cX4_copies 17 = .ok (.iadd, 1) := by decide +kernel
theorem dX4_copies_18 : decode cX4_copies 18 = .ok (.aload_n 0, 1) := by decide +kernel
theorem dX4_copies_19 : decode cX4_copies 19 = .ok (.getfield 7, 3) := by decide +kernel
theorem dX4_copies_22 : decode cX4_copies 22 = .ok (.bipush 122, 2) := by decide +kernel
theorem dX4_copies_24 : decode cX4_copies 24 = .ok (.iload_n 1, 1) := by decide +kernel
theorem dX4_copies_25 : decode cX4_copies 25 = .ok (.imul, 1) := by decide +kernel
theorem dX4_copies_26 : decode cX4_copies 26 = .ok (.iload_n 3, 1) := by decide +kernel
theorem dX4_copies_27 : decode cX4_copies 27 = .ok (.iadd, 1) := by decide +kernel
theorem dX4_copies_28 : decode cX4_copies 28 = .ok (.iaload, 1) := by decide +kernel
theorem dX4_copies_29 : decode cX4_copies 29 = .ok (.iastore, 1) := by decide +kernel
theorem dX4_copies_30 : decode cX4_copies 30 = .ok (.iinc 3 1, 3) := by decide +kernel
theorem dX4_copies_33 : decode cX4_copies 33 = .ok (.goto (-31), 3) := by decide +kernel
theorem dX4_copies_36 : decode cX4_copies 36 = .ok (.return_, 1) := by decide +kernel
theorem dX4_save_0 : decode cX4_save 0 = .ok (.iconst 1, 1) := by decide +kernel
theorem dX4_save_1 : decode cX4_save 1 = .ok (.istore_n 1, 1) := by decide +kernel
theorem dX4_save_2 : decode cX4_save 2 = .ok (.iload_n 1, 1) := by decide +kernel
theorem dX4_save_3 : decode cX4_save 3 = .ok (.bipush 6, 2) := by decide +kernel
theorem dX4_save_5 : decode cX4_save 5 = .ok (.if_icmp .ge 26, 3) := by decide +kernel
theorem dX4_save_8 : decode cX4_save 8 = .ok (.aload_n 0, 1) := by decide +kernel
theorem dX4_save_9 : decode cX4_save 9 = .ok (.getfield 73, 3) := by decide +kernel
theorem dX4_save_12 : decode cX4_save 12 = .ok (.bipush 6, 2) := by decide +kernel
theorem dX4_save_14 : decode cX4_save 14 = .ok (.if_icmp .ne 17, 3) := by decide +kernel
theorem dX4_save_17 : decode cX4_save 17 = .ok (.aload_n 0, 1) := by decide +kernel
theorem dX4_save_18 : decode cX4_save 18 = .ok (.iload_n 1, 1) := by decide +kernel
theorem dX4_save_19 : decode cX4_save 19 = .ok (.iconst 1, 1) := by decide +kernel
theorem dX4_save_20 : decode cX4_save 20 = .ok (.iadd, 1) := by decide +kernel
theorem dX4_save_21 : decode cX4_save 21 = .ok (.iload_n 1, 1) := by decide +kernel
theorem dX4_save_22 : decode cX4_save 22 = .ok (.invokevirtual 76, 3) := by decide +kernel
theorem dX4_save_25 : decode cX4_save 25 = .ok (.iinc 1 1, 3) := by decide +kernel
theorem dX4_save_28 : decode cX4_save 28 = .ok (.goto (-26), 3) := by decide +kernel
theorem dX4_save_31 : decode cX4_save 31 = .ok (.aload_n 0, 1) := by decide +kernel
theorem dX4_save_32 : decode cX4_save 32 = .ok (.dup, 1) := by decide +kernel
theorem dX4_save_33 : decode cX4_save 33 = .ok (.getfield 73, 3) := by decide +kernel
theorem dX4_save_36 : decode cX4_save 36 = .ok (.aload_n 0, 1) := by decide +kernel
theorem dX4_save_37 : decode cX4_save 37 = .ok (.getfield 73, 3) := by decide +kernel
theorem dX4_save_40 : decode cX4_save 40 = .ok (.bipush 6, 2) := by decide +kernel
theorem dX4_save_42 : decode cX4_save 42 = .ok (.if_icmp .ge 7, 3) := by decide +kernel
theorem dX4_save_45 : decode cX4_save 45 = .ok (.iconst 1, 1) := by decide +kernel
theorem dX4_save_46 : decode cX4_save 46 = .ok (.goto 4, 3) := by decide +kernel
theorem dX4_save_49 : decode cX4_save 49 = .ok (.iconst 0, 1) := by decide +kernel
theorem dX4_save_50 : decode cX4_save 50 = .ok (.iadd, 1) := by decide +kernel
theorem dX4_save_51 : decode cX4_save 51 = .ok (.putfield 73, 3) := by decide +kernel
theorem dX4_save_54 : decode cX4_save 54 = .ok (.aload_n 0, 1) := by decide +kernel
theorem dX4_save_55 : decode cX4_save 55 = .ok (.iconst 0, 1) := by decide +kernel
theorem dX4_save_56 : decode cX4_save 56 = .ok (.aload_n 0, 1) := by decide +kernel
theorem dX4_save_57 : decode cX4_save 57 = .ok (.getfield 73, 3) := by decide +kernel
theorem dX4_save_60 : decode cX4_save 60 = .ok (.invokevirtual 76, 3) := by decide +kernel
theorem dX4_save_63 : decode cX4_save 63 = .ok (.return_, 1) := by decide +kernel
theorem dX4_changed_0 : decode cX4_changed 0 = .ok (.aload_n 0, 1) := by decide +kernel
theorem dX4_changed_1 : decode cX4_changed 1 = .ok (.invokevirtual 80, 3) := by decide +kernel
theorem dX4_changed_4 : decode cX4_changed 4 = .ok (.aload_n 0, 1) := by decide +kernel
theorem dX4_changed_5 : decode cX4_changed 5 = .ok (.getfield 7, 3) := by decide +kernel
theorem dX4_changed_8 : decode cX4_changed 8 = .ok (.iload_n 1, 1) := by decide +kernel
theorem dX4_changed_9 : decode cX4_changed 9 = .ok (.iaload, 1) := by decide +kernel
theorem dX4_changed_10 : decode cX4_changed 10 = .ok (.istore_n 3, 1) := by decide +kernel
theorem dX4_changed_11 : decode cX4_changed 11 = .ok (.aload_n 0, 1) := by decide +kernel
theorem dX4_changed_12 : decode cX4_changed 12 = .ok (.getfield 7, 3) := by decide +kernel
theorem dX4_changed_15 : decode cX4_changed 15 = .ok (.iload_n 1, 1) := by decide +kernel
theorem dX4_changed_16 : decode cX4_changed 16 = .ok (.iload_n 2, 1) := by decide +kernel
theorem dX4_changed_17 : decode cX4_changed 17 = .ok (.iastore, 1) := by decide +kernel
theorem dX4_changed_18 : decode cX4_changed 18 = .ok (.iload_n 3, 1) := by decide +kernel
theorem dX4_changed_19 : decode cX4_changed 19 = .ok (.ireturn, 1) := by decide +kernel
theorem dX4_setOpen_0 : decode cX4_setOpen 0 = .ok (.aload_n 0, 1) := by decide +kernel
theorem dX4_setOpen_1 : decode cX4_setOpen 1 = .ok (.iload_n 1, 1) := by decide +kernel
theorem dX4_setOpen_2 : decode cX4_setOpen 2 = .ok (.invokestatic 83, 3) := by decide +kernel
theorem dX4_setOpen_5 : decode cX4_setOpen 5 = .ok (.ifCond .eq 7, 3) := by decide +kernel
theorem dX4_setOpen_8 : decode cX4_setOpen 8 = .ok (.iconst 0, 1) := by decide +kernel
theorem dX4_setOpen_9 : decode cX4_setOpen 9 = .ok (.goto 4, 3) := by decide +kernel
theorem dX4_setOpen_12 : decode cX4_setOpen 12 = .ok (.iconst 1, 1) := by decide +kernel
theorem dX4_setOpen_13 : decode cX4_setOpen 13 = .ok (.invokevirtual 86, 3) := by decide +kernel
theorem dX4_setOpen_16 : decode cX4_setOpen 16 = .ok (.ifCond .eq 28, 3) := by decide +kernel
theorem dX4_setOpen_19 : decode cX4_setOpen 19 = .ok (.aload_n 0, 1) := by decide +kernel
theorem dX4_setOpen_20 : decode cX4_setOpen 20 = .ok (.bipush 8, 2) := by decide +kernel
theorem dX4_setOpen_22 : decode cX4_setOpen 22 = .ok (.iload_n 1, 1) := by decide +kernel
theorem dX4_setOpen_23 : decode cX4_setOpen 23 = .ok (.iadd, 1) := by decide +kernel
theorem dX4_setOpen_24 : decode cX4_setOpen 24 = .ok (.iload_n 2, 1) := by decide +kernel
theorem dX4_setOpen_25 : decode cX4_setOpen 25 = .ok (.ifCond .eq 7, 3) := by decide +kernel
theorem dX4_setOpen_28 : decode cX4_setOpen 28 = .ok (.iconst 1, 1) := by decide +kernel
theorem dX4_setOpen_29 : decode cX4_setOpen 29 = .ok (.goto 4, 3) := by decide +kernel
theorem dX4_setOpen_32 : decode cX4_setOpen 32 = .ok (.iconst 0, 1) := by decide +kernel
theorem dX4_setOpen_33 : decode cX4_setOpen 33 = .ok (.invokevirtual 89, 3) := by decide +kernel
theorem dX4_setOpen_36 : decode cX4_setOpen 36 = .ok (.iconst 1, 1) := by decide +kernel
theorem dX4_setOpen_37 : decode cX4_setOpen 37 = .ok (.if_icmp .ne 7, 3) := by decide +kernel
theorem dX4_setOpen_40 : decode cX4_setOpen 40 = .ok (.iconst 1, 1) := by decide +kernel
theorem dX4_setOpen_41 : decode cX4_setOpen 41 = .ok (.goto 4, 3) := by decide +kernel
theorem dX4_setOpen_44 : decode cX4_setOpen 44 = .ok (.iconst 0, 1) := by decide +kernel
theorem dX4_setOpen_45 : decode cX4_setOpen 45 = .ok (.ireturn, 1) := by decide +kernel
theorem dX4_setKey_0 : decode cX4_setKey 0 = .ok (.aload_n 0, 1) := by decide +kernel
theorem dX4_setKey_1 : decode cX4_setKey 1 = .ok (.iload_n 1, 1) := by decide +kernel
theorem dX4_setKey_2 : decode cX4_setKey 2 = .ok (.invokestatic 83, 3) := by decide +kernel
theorem dX4_setKey_5 : decode cX4_setKey 5 = .ok (.ifCond .ne 7, 3) := by decide +kernel
theorem dX4_setKey_8 : decode cX4_setKey 8 = .ok (.iconst 1, 1) := by decide +kernel
theorem dX4_setKey_9 : decode cX4_setKey 9 = .ok (.goto 15, 3) := by decide +kernel
theorem dX4_setKey_12 : decode cX4_setKey 12 = .ok (.iload_n 2, 1) := by decide +kernel
theorem dX4_setKey_13 : decode cX4_setKey 13 = .ok (.invokestatic 92, 3) := by decide +kernel
theorem dX4_setKey_16 : decode cX4_setKey 16 = .ok (.ifCond .ne 7, 3) := by decide +kernel
theorem dX4_setKey_19 : decode cX4_setKey 19 = .ok (.iconst 2, 1) := by decide +kernel
theorem dX4_setKey_20 : decode cX4_setKey 20 = .ok (.goto 4, 3) := by decide +kernel
theorem dX4_setKey_23 : decode cX4_setKey 23 = .ok (.iconst 0, 1) := by decide +kernel
theorem dX4_setKey_24 : decode cX4_setKey 24 = .ok (.invokevirtual 86, 3) := by decide +kernel
theorem dX4_setKey_27 : decode cX4_setKey 27 = .ok (.ifCond .eq 15, 3) := by decide +kernel
theorem dX4_setKey_30 : decode cX4_setKey 30 = .ok (.aload_n 0, 1) := by decide +kernel
theorem dX4_setKey_31 : decode cX4_setKey 31 = .ok (.bipush 16, 2) := by decide +kernel
theorem dX4_setKey_33 : decode cX4_setKey 33 = .ok (.iload_n 1, 1) := by decide +kernel
theorem dX4_setKey_34 : decode cX4_setKey 34 = .ok (.iadd, 1) := by decide +kernel
theorem dX4_setKey_35 : decode cX4_setKey 35 = .ok (.iload_n 2, 1) := by decide +kernel
theorem dX4_setKey_36 : decode cX4_setKey 36 = .ok (.invokevirtual 89, 3) := by decide +kernel
theorem dX4_setKey_39 : decode cX4_setKey 39 = .ok (.goto 4, 3) := by decide +kernel
theorem dX4_setKey_42 : decode cX4_setKey 42 = .ok (.iconst 0, 1) := by decide +kernel
theorem dX4_setKey_43 : decode cX4_setKey 43 = .ok (.ireturn, 1) := by decide +kernel
theorem dX4_isOpen_0 : decode cX4_isOpen 0 = .ok (.aload_n 0, 1) := by decide +kernel
theorem dX4_isOpen_1 : decode cX4_isOpen 1 = .ok (.iload_n 1, 1) := by decide +kernel
theorem dX4_isOpen_2 : decode cX4_isOpen 2 = .ok (.invokestatic 83, 3) := by decide +kernel
theorem dX4_isOpen_5 : decode cX4_isOpen 5 = .ok (.ifCond .eq 7, 3) := by decide +kernel
theorem dX4_isOpen_8 : decode cX4_isOpen 8 = .ok (.iconst 0, 1) := by decide +kernel
theorem dX4_isOpen_9 : decode cX4_isOpen 9 = .ok (.goto 4, 3) := by decide +kernel
theorem dX4_isOpen_12 : decode cX4_isOpen 12 = .ok (.iconst 1, 1) := by decide +kernel
theorem dX4_isOpen_13 : decode cX4_isOpen 13 = .ok (.invokevirtual 86, 3) := by decide +kernel
theorem dX4_isOpen_16 : decode cX4_isOpen 16 = .ok (.ifCond .eq 15, 3) := by decide +kernel
theorem dX4_isOpen_19 : decode cX4_isOpen 19 = .ok (.aload_n 0, 1) := by decide +kernel
theorem dX4_isOpen_20 : decode cX4_isOpen 20 = .ok (.iload_n 1, 1) := by decide +kernel
theorem dX4_isOpen_21 : decode cX4_isOpen 21 = .ok (.invokevirtual 28, 3) := by decide +kernel
theorem dX4_isOpen_24 : decode cX4_isOpen 24 = .ok (.ifCond .eq 7, 3) := by decide +kernel
theorem dX4_isOpen_27 : decode cX4_isOpen 27 = .ok (.iconst 1, 1) := by decide +kernel
theorem dX4_isOpen_28 : decode cX4_isOpen 28 = .ok (.goto 4, 3) := by decide +kernel
theorem dX4_isOpen_31 : decode cX4_isOpen 31 = .ok (.iconst 0, 1) := by decide +kernel
theorem dX4_isOpen_32 : decode cX4_isOpen 32 = .ok (.ireturn, 1) := by decide +kernel
theorem dX4_key_0 : decode cX4_key 0 = .ok (.aload_n 0, 1) := by decide +kernel
theorem dX4_key_1 : decode cX4_key 1 = .ok (.iload_n 1, 1) := by decide +kernel
theorem dX4_key_2 : decode cX4_key 2 = .ok (.invokestatic 83, 3) := by decide +kernel
theorem dX4_key_5 : decode cX4_key 5 = .ok (.ifCond .eq 7, 3) := by decide +kernel
theorem dX4_key_8 : decode cX4_key 8 = .ok (.iconst 0, 1) := by decide +kernel
theorem dX4_key_9 : decode cX4_key 9 = .ok (.goto 4, 3) := by decide +kernel
theorem dX4_key_12 : decode cX4_key 12 = .ok (.iconst 1, 1) := by decide +kernel
theorem dX4_key_13 : decode cX4_key 13 = .ok (.invokevirtual 86, 3) := by decide +kernel
theorem dX4_key_16 : decode cX4_key 16 = .ok (.ifCond .eq 15, 3) := by decide +kernel
theorem dX4_key_19 : decode cX4_key 19 = .ok (.aload_n 0, 1) := by decide +kernel
theorem dX4_key_20 : decode cX4_key 20 = .ok (.getfield 7, 3) := by decide +kernel
theorem dX4_key_23 : decode cX4_key 23 = .ok (.bipush 16, 2) := by decide +kernel
theorem dX4_key_25 : decode cX4_key 25 = .ok (.iload_n 1, 1) := by decide +kernel
theorem dX4_key_26 : decode cX4_key 26 = .ok (.iadd, 1) := by decide +kernel
theorem dX4_key_27 : decode cX4_key 27 = .ok (.iaload, 1) := by decide +kernel
theorem dX4_key_28 : decode cX4_key 28 = .ok (.goto 4, 3) := by decide +kernel
theorem dX4_key_31 : decode cX4_key 31 = .ok (.iconst 0, 1) := by decide +kernel
theorem dX4_key_32 : decode cX4_key 32 = .ok (.ireturn, 1) := by decide +kernel
theorem dX4_cover_0 : decode cX4_cover 0 = .ok (.aload_n 0, 1) := by decide +kernel
theorem dX4_cover_1 : decode cX4_cover 1 = .ok (.iload_n 1, 1) := by decide +kernel
theorem dX4_cover_2 : decode cX4_cover 2 = .ok (.invokestatic 83, 3) := by decide +kernel
theorem dX4_cover_5 : decode cX4_cover 5 = .ok (.ifCond .ne 7, 3) := by decide +kernel
theorem dX4_cover_8 : decode cX4_cover 8 = .ok (.iconst 1, 1) := by decide +kernel
theorem dX4_cover_9 : decode cX4_cover 9 = .ok (.goto 15, 3) := by decide +kernel
theorem dX4_cover_12 : decode cX4_cover 12 = .ok (.iload_n 2, 1) := by decide +kernel
theorem dX4_cover_13 : decode cX4_cover 13 = .ok (.invokestatic 92, 3) := by decide +kernel
theorem dX4_cover_16 : decode cX4_cover 16 = .ok (.ifCond .ne 7, 3) := by decide +kernel
theorem dX4_cover_19 : decode cX4_cover 19 = .ok (.iconst 2, 1) := by decide +kernel
theorem dX4_cover_20 : decode cX4_cover 20 = .ok (.goto 4, 3) := by decide +kernel
theorem dX4_cover_23 : decode cX4_cover 23 = .ok (.iconst 0, 1) := by decide +kernel
theorem dX4_cover_24 : decode cX4_cover 24 = .ok (.invokevirtual 86, 3) := by decide +kernel
theorem dX4_cover_27 : decode cX4_cover 27 = .ok (.ifCond .eq 19, 3) := by decide +kernel
theorem dX4_cover_30 : decode cX4_cover 30 = .ok (.iload_n 2, 1) := by decide +kernel
theorem dX4_cover_31 : decode cX4_cover 31 = .ok (.aload_n 0, 1) := by decide +kernel
theorem dX4_cover_32 : decode cX4_cover 32 = .ok (.getfield 7, 3) := by decide +kernel
theorem dX4_cover_35 : decode cX4_cover 35 = .ok (.bipush 16, 2) := by decide +kernel
theorem dX4_cover_37 : decode cX4_cover 37 = .ok (.iload_n 1, 1) := by decide +kernel
theorem dX4_cover_38 : decode cX4_cover 38 = .ok (.iadd, 1) := by decide +kernel
theorem dX4_cover_39 : decode cX4_cover 39 = .ok (.iaload, 1) := by decide +kernel
theorem dX4_cover_40 : decode cX4_cover 40 = .ok (.invokestatic 39, 3) := by decide +kernel
theorem dX4_cover_43 : decode cX4_cover 43 = .ok (.goto 4, 3) := by decide +kernel
theorem dX4_cover_46 : decode cX4_cover 46 = .ok (.iconst 0, 1) := by decide +kernel
theorem dX4_cover_47 : decode cX4_cover 47 = .ok (.ireturn, 1) := by decide +kernel
theorem dX4_uncover_0 : decode cX4_uncover 0 = .ok (.aload_n 0, 1) := by decide +kernel
theorem dX4_uncover_1 : decode cX4_uncover 1 = .ok (.iload_n 1, 1) := by decide +kernel
theorem dX4_uncover_2 : decode cX4_uncover 2 = .ok (.invokestatic 83, 3) := by decide +kernel
theorem dX4_uncover_5 : decode cX4_uncover 5 = .ok (.ifCond .ne 7, 3) := by decide +kernel
theorem dX4_uncover_8 : decode cX4_uncover 8 = .ok (.iconst 1, 1) := by decide +kernel
theorem dX4_uncover_9 : decode cX4_uncover 9 = .ok (.goto 15, 3) := by decide +kernel
theorem dX4_uncover_12 : decode cX4_uncover 12 = .ok (.iload_n 2, 1) := by decide +kernel
theorem dX4_uncover_13 : decode cX4_uncover 13 = .ok (.invokestatic 92, 3) := by decide +kernel
theorem dX4_uncover_16 : decode cX4_uncover 16 = .ok (.ifCond .ne 7, 3) := by decide +kernel
theorem dX4_uncover_19 : decode cX4_uncover 19 = .ok (.iconst 2, 1) := by decide +kernel
theorem dX4_uncover_20 : decode cX4_uncover 20 = .ok (.goto 4, 3) := by decide +kernel
theorem dX4_uncover_23 : decode cX4_uncover 23 = .ok (.iconst 0, 1) := by decide +kernel
theorem dX4_uncover_24 : decode cX4_uncover 24 = .ok (.invokevirtual 86, 3) := by decide +kernel
theorem dX4_uncover_27 : decode cX4_uncover 27 = .ok (.ifCond .eq 19, 3) := by decide +kernel
theorem dX4_uncover_30 : decode cX4_uncover 30 = .ok (.iload_n 2, 1) := by decide +kernel
theorem dX4_uncover_31 : decode cX4_uncover 31 = .ok (.aload_n 0, 1) := by decide +kernel
theorem dX4_uncover_32 : decode cX4_uncover 32 = .ok (.getfield 7, 3) := by decide +kernel
theorem dX4_uncover_35 : decode cX4_uncover 35 = .ok (.bipush 16, 2) := by decide +kernel
theorem dX4_uncover_37 : decode cX4_uncover 37 = .ok (.iload_n 1, 1) := by decide +kernel
theorem dX4_uncover_38 : decode cX4_uncover 38 = .ok (.iadd, 1) := by decide +kernel
theorem dX4_uncover_39 : decode cX4_uncover 39 = .ok (.iaload, 1) := by decide +kernel
theorem dX4_uncover_40 : decode cX4_uncover 40 = .ok (.invokestatic 53, 3) := by decide +kernel
theorem dX4_uncover_43 : decode cX4_uncover 43 = .ok (.goto 4, 3) := by decide +kernel
theorem dX4_uncover_46 : decode cX4_uncover 46 = .ok (.iconst 0, 1) := by decide +kernel
theorem dX4_uncover_47 : decode cX4_uncover 47 = .ok (.ireturn, 1) := by decide +kernel
theorem dX4_lay_0 : decode cX4_lay 0 = .ok (.iload_n 1, 1) := by decide +kernel
theorem dX4_lay_1 : decode cX4_lay 1 = .ok (.invokestatic 83, 3) := by decide +kernel
theorem dX4_lay_4 : decode cX4_lay 4 = .ok (.ifCond .eq 29, 3) := by decide +kernel
theorem dX4_lay_7 : decode cX4_lay 7 = .ok (.iload_n 2, 1) := by decide +kernel
theorem dX4_lay_8 : decode cX4_lay 8 = .ok (.invokestatic 83, 3) := by decide +kernel
theorem dX4_lay_11 : decode cX4_lay 11 = .ok (.ifCond .eq 22, 3) := by decide +kernel
theorem dX4_lay_14 : decode cX4_lay 14 = .ok (.iload_n 3, 1) := by decide +kernel
theorem dX4_lay_15 : decode cX4_lay 15 = .ok (.invokestatic 83, 3) := by decide +kernel
theorem dX4_lay_18 : decode cX4_lay 18 = .ok (.ifCond .eq 15, 3) := by decide +kernel
theorem dX4_lay_21 : decode cX4_lay 21 = .ok (.iload 4, 2) := by decide +kernel
theorem dX4_lay_23 : decode cX4_lay 23 = .ok (.invokestatic 95, 3) := by decide +kernel
theorem dX4_lay_26 : decode cX4_lay 26 = .ok (.ifCond .eq 7, 3) := by decide +kernel
theorem dX4_lay_29 : decode cX4_lay 29 = .ok (.iconst 1, 1) := by decide +kernel
theorem dX4_lay_30 : decode cX4_lay 30 = .ok (.goto 4, 3) := by decide +kernel
theorem dX4_lay_33 : decode cX4_lay 33 = .ok (.iconst 0, 1) := by decide +kernel
theorem dX4_lay_34 : decode cX4_lay 34 = .ok (.istore 5, 2) := by decide +kernel
theorem dX4_lay_36 : decode cX4_lay 36 = .ok (.iload_n 1, 1) := by decide +kernel
theorem dX4_lay_37 : decode cX4_lay 37 = .ok (.iload_n 2, 1) := by decide +kernel
theorem dX4_lay_38 : decode cX4_lay 38 = .ok (.if_icmp .eq 13, 3) := by decide +kernel
theorem dX4_lay_41 : decode cX4_lay 41 = .ok (.iload_n 2, 1) := by decide +kernel
theorem dX4_lay_42 : decode cX4_lay 42 = .ok (.iload_n 3, 1) := by decide +kernel
theorem dX4_lay_43 : decode cX4_lay 43 = .ok (.if_icmp .eq 8, 3) := by decide +kernel
theorem dX4_lay_46 : decode cX4_lay 46 = .ok (.iload_n 1, 1) := by decide +kernel
theorem dX4_lay_47 : decode cX4_lay 47 = .ok (.iload_n 3, 1) := by decide +kernel
theorem dX4_lay_48 : decode cX4_lay 48 = .ok (.if_icmp .ne 7, 3) := by decide +kernel
theorem dX4_lay_51 : decode cX4_lay 51 = .ok (.iconst 1, 1) := by decide +kernel
theorem dX4_lay_52 : decode cX4_lay 52 = .ok (.goto 4, 3) := by decide +kernel
theorem dX4_lay_55 : decode cX4_lay 55 = .ok (.iconst 0, 1) := by decide +kernel
theorem dX4_lay_56 : decode cX4_lay 56 = .ok (.istore 6, 2) := by decide +kernel
theorem dX4_lay_58 : decode cX4_lay 58 = .ok (.aload_n 0, 1) := by decide +kernel
theorem dX4_lay_59 : decode cX4_lay 59 = .ok (.iload 5, 2) := by decide +kernel
theorem dX4_lay_61 : decode cX4_lay 61 = .ok (.ifCond .ne 7, 3) := by decide +kernel
theorem dX4_lay_64 : decode cX4_lay 64 = .ok (.iconst 1, 1) := by decide +kernel
theorem dX4_lay_65 : decode cX4_lay 65 = .ok (.goto 27, 3) := by decide +kernel
theorem dX4_lay_68 : decode cX4_lay 68 = .ok (.iload 6, 2) := by decide +kernel
theorem dX4_lay_70 : decode cX4_lay 70 = .ok (.ifCond .eq 7, 3) := by decide +kernel
theorem dX4_lay_73 : decode cX4_lay 73 = .ok (.iconst 2, 1) := by decide +kernel
theorem dX4_lay_74 : decode cX4_lay 74 = .ok (.goto 18, 3) := by decide +kernel
theorem dX4_lay_77 : decode cX4_lay 77 = .ok (.aload_n 0, 1) := by decide +kernel
theorem dX4_lay_78 : decode cX4_lay 78 = .ok (.iload_n 1, 1) := by decide +kernel
theorem dX4_lay_79 : decode cX4_lay 79 = .ok (.iload_n 2, 1) := by decide +kernel
theorem dX4_lay_80 : decode cX4_lay 80 = .ok (.iload_n 3, 1) := by decide +kernel
theorem dX4_lay_81 : decode cX4_lay 81 = .ok (.invokevirtual 98, 3) := by decide +kernel
theorem dX4_lay_84 : decode cX4_lay 84 = .ok (.ifCond .ne 7, 3) := by decide +kernel
theorem dX4_lay_87 : decode cX4_lay 87 = .ok (.iconst 3, 1) := by decide +kernel
theorem dX4_lay_88 : decode cX4_lay 88 = .ok (.goto 4, 3) := by decide +kernel
theorem dX4_lay_91 : decode cX4_lay 91 = .ok (.iconst 0, 1) := by decide +kernel
theorem dX4_lay_92 : decode cX4_lay 92 = .ok (.invokevirtual 86, 3) := by decide +kernel
theorem dX4_lay_95 : decode cX4_lay 95 = .ok (.ifCond .ne 5, 3) := by decide +kernel
theorem dX4_lay_98 : decode cX4_lay 98 = .ok (.iconst 0, 1) := by decide +kernel
theorem dX4_lay_99 : decode cX4_lay 99 = .ok (.ireturn, 1) := by decide +kernel
theorem dX4_lay_100 : decode cX4_lay 100 = .ok (.aload_n 0, 1) := by decide +kernel
theorem dX4_lay_101 : decode cX4_lay 101 = .ok (.invokevirtual 80, 3) := by decide +kernel
theorem dX4_lay_104 : decode cX4_lay 104 = .ok (.aload_n 0, 1) := by decide +kernel
theorem dX4_lay_105 : decode cX4_lay 105 = .ok (.iload_n 1, 1) := by decide +kernel
theorem dX4_lay_106 : decode cX4_lay 106 = .ok (.iload_n 2, 1) := by decide +kernel
theorem dX4_lay_107 : decode cX4_lay 107 = .ok (.iload_n 3, 1) := by decide +kernel
theorem dX4_lay_108 : decode cX4_lay 108 = .ok (.iload 4, 2) := by decide +kernel
theorem dX4_lay_110 : decode cX4_lay 110 = .ok (.invokevirtual 101, 3) := by decide +kernel
theorem dX4_lay_113 : decode cX4_lay 113 = .ok (.ireturn, 1) := by decide +kernel
theorem dX4_takeUp_0 : decode cX4_takeUp 0 = .ok (.aload_n 0, 1) := by decide +kernel
theorem dX4_takeUp_1 : decode cX4_takeUp 1 = .ok (.aload_n 0, 1) := by decide +kernel
theorem dX4_takeUp_2 : decode cX4_takeUp 2 = .ok (.invokevirtual 104, 3) := by decide +kernel
theorem dX4_takeUp_5 : decode cX4_takeUp 5 = .ok (.ifCond .eq 7, 3) := by decide +kernel
theorem dX4_takeUp_8 : decode cX4_takeUp 8 = .ok (.iconst 0, 1) := by decide +kernel
theorem dX4_takeUp_9 : decode cX4_takeUp 9 = .ok (.goto 4, 3) := by decide +kernel
theorem dX4_takeUp_12 : decode cX4_takeUp 12 = .ok (.iconst 1, 1) := by decide +kernel
theorem dX4_takeUp_13 : decode cX4_takeUp 13 = .ok (.invokevirtual 86, 3) := by decide +kernel
theorem dX4_takeUp_16 : decode cX4_takeUp 16 = .ok (.ifCond .ne 5, 3) := by decide +kernel
theorem dX4_takeUp_19 : decode cX4_takeUp 19 = .ok (.iconst 0, 1) := by decide +kernel
theorem dX4_takeUp_20 : decode cX4_takeUp 20 = .ok (.ireturn, 1) := by decide +kernel
theorem dX4_takeUp_21 : decode cX4_takeUp 21 = .ok (.aload_n 0, 1) := by decide +kernel
theorem dX4_takeUp_22 : decode cX4_takeUp 22 = .ok (.invokevirtual 80, 3) := by decide +kernel
theorem dX4_takeUp_25 : decode cX4_takeUp 25 = .ok (.aload_n 0, 1) := by decide +kernel
theorem dX4_takeUp_26 : decode cX4_takeUp 26 = .ok (.getfield 7, 3) := by decide +kernel
theorem dX4_takeUp_29 : decode cX4_takeUp 29 = .ok (.iconst 0, 1) := by decide +kernel
theorem dX4_takeUp_30 : decode cX4_takeUp 30 = .ok (.dup2, 1) := by decide +kernel
theorem dX4_takeUp_31 : decode cX4_takeUp 31 = .ok (.iaload, 1) := by decide +kernel
theorem dX4_takeUp_32 : decode cX4_takeUp 32 = .ok (.iconst 1, 1) := by decide +kernel
theorem dX4_takeUp_33 : decode cX4_takeUp 33 = .ok (.isub, 1) := by decide +kernel
theorem dX4_takeUp_34 : decode cX4_takeUp 34 = .ok (.iastore, 1) := by decide +kernel
theorem dX4_takeUp_35 : decode cX4_takeUp 35 = .ok (.iconst 0, 1) := by decide +kernel
theorem dX4_takeUp_36 : decode cX4_takeUp 36 = .ok (.istore_n 1, 1) := by decide +kernel
theorem dX4_takeUp_37 : decode cX4_takeUp 37 = .ok (.iload_n 1, 1) := by decide +kernel
theorem dX4_takeUp_38 : decode cX4_takeUp 38 = .ok (.iconst 4, 1) := by decide +kernel
theorem dX4_takeUp_39 : decode cX4_takeUp 39 = .ok (.if_icmp .ge 49, 3) := by decide +kernel
theorem dX4_takeUp_42 : decode cX4_takeUp 42 = .ok (.aload_n 0, 1) := by decide +kernel
theorem dX4_takeUp_43 : decode cX4_takeUp 43 = .ok (.getfield 7, 3) := by decide +kernel
theorem dX4_takeUp_46 : decode cX4_takeUp 46 = .ok (.bipush 118, 2) := by decide +kernel
theorem dX4_takeUp_48 : decode cX4_takeUp 48 = .ok (.iload_n 1, 1) := by decide +kernel
theorem dX4_takeUp_49 : decode cX4_takeUp 49 = .ok (.iadd, 1) := by decide +kernel
theorem dX4_takeUp_50 : decode cX4_takeUp 50 = .ok (.aload_n 0, 1) := by decide +kernel
theorem dX4_takeUp_51 : decode cX4_takeUp 51 = .ok (.getfield 7, 3) := by decide +kernel
theorem dX4_takeUp_54 : decode cX4_takeUp 54 = .ok (.bipush 118, 2) := by decide +kernel
theorem dX4_takeUp_56 : decode cX4_takeUp 56 = .ok (.iload_n 1, 1) := by decide +kernel
theorem dX4_takeUp_57 : decode cX4_takeUp 57 = .ok (.iadd, 1) := by decide +kernel
theorem dX4_takeUp_58 : decode cX4_takeUp 58 = .ok (.iaload, 1) := by decide +kernel
theorem dX4_takeUp_59 : decode cX4_takeUp 59 = .ok (.aload_n 0, 1) := by decide +kernel
theorem dX4_takeUp_60 : decode cX4_takeUp 60 = .ok (.getfield 7, 3) := by decide +kernel
theorem dX4_takeUp_63 : decode cX4_takeUp 63 = .ok (.iconst 0, 1) := by decide +kernel
theorem dX4_takeUp_64 : decode cX4_takeUp 64 = .ok (.iaload, 1) := by decide +kernel
theorem dX4_takeUp_65 : decode cX4_takeUp 65 = .ok (.if_icmp .ne 7, 3) := by decide +kernel
theorem dX4_takeUp_68 : decode cX4_takeUp 68 = .ok (.iconst (-1), 1) := by decide +kernel
theorem dX4_takeUp_69 : decode cX4_takeUp 69 = .ok (.goto 12, 3) := by decide +kernel
theorem dX4_takeUp_72 : decode cX4_takeUp 72 = .ok (.aload_n 0, 1) := by decide +kernel
theorem dX4_takeUp_73 : decode cX4_takeUp 73 = .ok (.getfield 7, 3) := by decide +kernel
theorem dX4_takeUp_76 : decode cX4_takeUp 76 = .ok (.bipush 118, 2) := by decide +kernel
theorem dX4_takeUp_78 : decode cX4_takeUp 78 = .ok (.iload_n 1, 1) := by decide +kernel
theorem dX4_takeUp_79 : decode cX4_takeUp 79 = .ok (.iadd, 1) := by decide +kernel
theorem dX4_takeUp_80 : decode cX4_takeUp 80 = .ok (.iaload, 1) := by decide +kernel
theorem dX4_takeUp_81 : decode cX4_takeUp 81 = .ok (.iastore, 1) := by decide +kernel
theorem dX4_takeUp_82 : decode cX4_takeUp 82 = .ok (.iinc 1 1, 3) := by decide +kernel
theorem dX4_takeUp_85 : decode cX4_takeUp 85 = .ok (.goto (-48), 3) := by decide +kernel
theorem dX4_takeUp_88 : decode cX4_takeUp 88 = .ok (.aload_n 0, 1) := by decide +kernel
theorem dX4_takeUp_89 : decode cX4_takeUp 89 = .ok (.getfield 7, 3) := by decide +kernel
theorem dX4_takeUp_92 : decode cX4_takeUp 92 = .ok (.iconst 0, 1) := by decide +kernel
theorem dX4_takeUp_93 : decode cX4_takeUp 93 = .ok (.iaload, 1) := by decide +kernel
theorem dX4_takeUp_94 : decode cX4_takeUp 94 = .ok (.ireturn, 1) := by decide +kernel
theorem dX4_roads_0 : decode cX4_roads 0 = .ok (.aload_n 0, 1) := by decide +kernel
theorem dX4_roads_1 : decode cX4_roads 1 = .ok (.aload_n 0, 1) := by decide +kernel
theorem dX4_roads_2 : decode cX4_roads 2 = .ok (.getfield 7, 3) := by decide +kernel
theorem dX4_roads_5 : decode cX4_roads 5 = .ok (.iconst 0, 1) := by decide +kernel
theorem dX4_roads_6 : decode cX4_roads 6 = .ok (.iaload, 1) := by decide +kernel
theorem dX4_roads_7 : decode cX4_roads 7 = .ok (.invokevirtual 107, 3) := by decide +kernel
theorem dX4_roads_10 : decode cX4_roads 10 = .ok (.ireturn, 1) := by decide +kernel
theorem dX4_inn_0 : decode cX4_inn 0 = .ok (.aload_n 0, 1) := by decide +kernel
theorem dX4_inn_1 : decode cX4_inn 1 = .ok (.aload_n 0, 1) := by decide +kernel
theorem dX4_inn_2 : decode cX4_inn 2 = .ok (.iload_n 1, 1) := by decide +kernel
theorem dX4_inn_3 : decode cX4_inn 3 = .ok (.invokevirtual 110, 3) := by decide +kernel
theorem dX4_inn_6 : decode cX4_inn 6 = .ok (.ifCond .eq 16, 3) := by decide +kernel
theorem dX4_inn_9 : decode cX4_inn 9 = .ok (.iload_n 2, 1) := by decide +kernel
theorem dX4_inn_10 : decode cX4_inn 10 = .ok (.iconst 1, 1) := by decide +kernel
theorem dX4_inn_11 : decode cX4_inn 11 = .ok (.iconst 3, 1) := by decide +kernel
theorem dX4_inn_12 : decode cX4_inn 12 = .ok (.invokestatic 20, 3) := by decide +kernel
theorem dX4_inn_15 : decode cX4_inn 15 = .ok (.ifCond .eq 7, 3) := by decide +kernel
theorem dX4_inn_18 : decode cX4_inn 18 = .ok (.iconst 0, 1) := by decide +kernel
theorem dX4_inn_19 : decode cX4_inn 19 = .ok (.goto 4, 3) := by decide +kernel
theorem dX4_inn_22 : decode cX4_inn 22 = .ok (.iconst 1, 1) := by decide +kernel
theorem dX4_inn_23 : decode cX4_inn 23 = .ok (.invokevirtual 86, 3) := by decide +kernel
theorem dX4_inn_26 : decode cX4_inn 26 = .ok (.ifCond .eq 12, 3) := by decide +kernel
theorem dX4_inn_29 : decode cX4_inn 29 = .ok (.aload_n 0, 1) := by decide +kernel
theorem dX4_inn_30 : decode cX4_inn 30 = .ok (.iload_n 1, 1) := by decide +kernel
theorem dX4_inn_31 : decode cX4_inn 31 = .ok (.iload_n 2, 1) := by decide +kernel
theorem dX4_inn_32 : decode cX4_inn 32 = .ok (.invokevirtual 24, 3) := by decide +kernel
theorem dX4_inn_35 : decode cX4_inn 35 = .ok (.goto 4, 3) := by decide +kernel
theorem dX4_inn_38 : decode cX4_inn 38 = .ok (.iconst 0, 1) := by decide +kernel
theorem dX4_inn_39 : decode cX4_inn 39 = .ok (.ireturn, 1) := by decide +kernel
theorem dX4_hall_0 : decode cX4_hall 0 = .ok (.aload_n 0, 1) := by decide +kernel
theorem dX4_hall_1 : decode cX4_hall 1 = .ok (.aload_n 0, 1) := by decide +kernel
theorem dX4_hall_2 : decode cX4_hall 2 = .ok (.iload_n 1, 1) := by decide +kernel
theorem dX4_hall_3 : decode cX4_hall 3 = .ok (.invokevirtual 110, 3) := by decide +kernel
theorem dX4_hall_6 : decode cX4_hall 6 = .ok (.ifCond .eq 7, 3) := by decide +kernel
theorem dX4_hall_9 : decode cX4_hall 9 = .ok (.iconst 0, 1) := by decide +kernel
theorem dX4_hall_10 : decode cX4_hall 10 = .ok (.goto 4, 3) := by decide +kernel
theorem dX4_hall_13 : decode cX4_hall 13 = .ok (.iconst 1, 1) := by decide +kernel
theorem dX4_hall_14 : decode cX4_hall 14 = .ok (.invokevirtual 86, 3) := by decide +kernel
theorem dX4_hall_17 : decode cX4_hall 17 = .ok (.ifCond .eq 11, 3) := by decide +kernel
theorem dX4_hall_20 : decode cX4_hall 20 = .ok (.aload_n 0, 1) := by decide +kernel
theorem dX4_hall_21 : decode cX4_hall 21 = .ok (.iload_n 1, 1) := by decide +kernel
theorem dX4_hall_22 : decode cX4_hall 22 = .ok (.invokevirtual 49, 3) := by decide +kernel
theorem dX4_hall_25 : decode cX4_hall 25 = .ok (.goto 4, 3) := by decide +kernel
theorem dX4_hall_28 : decode cX4_hall 28 = .ok (.iconst 0, 1) := by decide +kernel
theorem dX4_hall_29 : decode cX4_hall 29 = .ok (.ireturn, 1) := by decide +kernel
theorem dX4_stands_0 : decode cX4_stands 0 = .ok (.aload_n 0, 1) := by decide +kernel
theorem dX4_stands_1 : decode cX4_stands 1 = .ok (.aload_n 0, 1) := by decide +kernel
theorem dX4_stands_2 : decode cX4_stands 2 = .ok (.iload_n 1, 1) := by decide +kernel
theorem dX4_stands_3 : decode cX4_stands 3 = .ok (.invokevirtual 110, 3) := by decide +kernel
theorem dX4_stands_6 : decode cX4_stands 6 = .ok (.ifCond .eq 7, 3) := by decide +kernel
theorem dX4_stands_9 : decode cX4_stands 9 = .ok (.iconst 0, 1) := by decide +kernel
theorem dX4_stands_10 : decode cX4_stands 10 = .ok (.goto 4, 3) := by decide +kernel
theorem dX4_stands_13 : decode cX4_stands 13 = .ok (.iconst 1, 1) := by decide +kernel
theorem dX4_stands_14 : decode cX4_stands 14 = .ok (.invokevirtual 86, 3) := by decide +kernel
theorem dX4_stands_17 : decode cX4_stands 17 = .ok (.ifCond .eq 15, 3) := by decide +kernel
theorem dX4_stands_20 : decode cX4_stands 20 = .ok (.aload_n 0, 1) := by decide +kernel
theorem dX4_stands_21 : decode cX4_stands 21 = .ok (.iload_n 1, 1) := by decide +kernel
theorem dX4_stands_22 : decode cX4_stands 22 = .ok (.invokevirtual 113, 3) := by decide +kernel
theorem dX4_stands_25 : decode cX4_stands 25 = .ok (.ifCond .eq 7, 3) := by decide +kernel
theorem dX4_stands_28 : decode cX4_stands 28 = .ok (.iconst 1, 1) := by decide +kernel
theorem dX4_stands_29 : decode cX4_stands 29 = .ok (.goto 4, 3) := by decide +kernel
theorem dX4_stands_32 : decode cX4_stands 32 = .ok (.iconst 0, 1) := by decide +kernel
theorem dX4_stands_33 : decode cX4_stands 33 = .ok (.ireturn, 1) := by decide +kernel
theorem dX4_seen_0 : decode cX4_seen 0 = .ok (.aload_n 0, 1) := by decide +kernel
theorem dX4_seen_1 : decode cX4_seen 1 = .ok (.iload_n 1, 1) := by decide +kernel
theorem dX4_seen_2 : decode cX4_seen 2 = .ok (.iload_n 2, 1) := by decide +kernel
theorem dX4_seen_3 : decode cX4_seen 3 = .ok (.invokevirtual 116, 3) := by decide +kernel
theorem dX4_seen_6 : decode cX4_seen 6 = .ok (.istore 4, 2) := by decide +kernel
theorem dX4_seen_8 : decode cX4_seen 8 = .ok (.iload 4, 2) := by decide +kernel
theorem dX4_seen_10 : decode cX4_seen 10 = .ok (.ifCond .ne 5, 3) := by decide +kernel
theorem dX4_seen_13 : decode cX4_seen 13 = .ok (.iconst (-1), 1) := by decide +kernel
theorem dX4_seen_14 : decode cX4_seen 14 = .ok (.ireturn, 1) := by decide +kernel
theorem dX4_seen_15 : decode cX4_seen 15 = .ok (.iload_n 3, 1) := by decide +kernel
theorem dX4_seen_16 : decode cX4_seen 16 = .ok (.ifCond .ne 10, 3) := by decide +kernel
theorem dX4_seen_19 : decode cX4_seen 19 = .ok (.iload 4, 2) := by decide +kernel
theorem dX4_seen_21 : decode cX4_seen 21 = .ok (.iconst 1, 1) := by decide +kernel
theorem dX4_seen_22 : decode cX4_seen 22 = .ok (.isub, 1) := by decide +kernel
theorem dX4_seen_23 : decode cX4_seen 23 = .ok (.goto 7, 3) := by decide +kernel
theorem dX4_seen_26 : decode cX4_seen 26 = .ok (.iload 4, 2) := by decide +kernel
theorem dX4_seen_28 : decode cX4_seen 28 = .ok (.iconst 1, 1) := by decide +kernel
theorem dX4_seen_29 : decode cX4_seen 29 = .ok (.iadd, 1) := by decide +kernel
theorem dX4_seen_30 : decode cX4_seen 30 = .ok (.istore 5, 2) := by decide +kernel
theorem dX4_seen_32 : decode cX4_seen 32 = .ok (.iload 5, 2) := by decide +kernel
theorem dX4_seen_34 : decode cX4_seen 34 = .ok (.ifCond .ne 8, 3) := by decide +kernel
theorem dX4_seen_37 : decode cX4_seen 37 = .ok (.bipush 8, 2) := by decide +kernel
theorem dX4_seen_39 : decode cX4_seen 39 = .ok (.goto 27, 3) := by decide +kernel
theorem dX4_seen_42 : decode cX4_seen 42 = .ok (.iload 5, 2) := by decide +kernel
theorem dX4_seen_44 : decode cX4_seen 44 = .ok (.iconst 4, 1) := by decide +kernel
theorem dX4_seen_45 : decode cX4_seen 45 = .ok (.if_icmp .ne 14, 3) := by decide +kernel
theorem dX4_seen_48 : decode cX4_seen 48 = .ok (.bipush 10, 2) := by decide +kernel
theorem dX4_seen_50 : decode cX4_seen 50 = .ok (.aload_n 0, 1) := by decide +kernel
theorem dX4_seen_51 : decode cX4_seen 51 = .ok (.iload_n 2, 1) := by decide +kernel
theorem dX4_seen_52 : decode cX4_seen 52 = .ok (.invokevirtual 49, 3) := by decide +kernel
theorem dX4_seen_55 : decode cX4_seen 55 = .ok (.iadd, 1) := by decide +kernel
theorem dX4_seen_56 : decode cX4_seen 56 = .ok (.goto 10, 3) := by decide +kernel
theorem dX4_seen_59 : decode cX4_seen 59 = .ok (.aload_n 0, 1) := by decide +kernel
theorem dX4_seen_60 : decode cX4_seen 60 = .ok (.iload_n 2, 1) := by decide +kernel
theorem dX4_seen_61 : decode cX4_seen 61 = .ok (.iload 5, 2) := by decide +kernel
theorem dX4_seen_63 : decode cX4_seen 63 = .ok (.invokevirtual 24, 3) := by decide +kernel
theorem dX4_seen_66 : decode cX4_seen 66 = .ok (.ireturn, 1) := by decide +kernel
theorem dX4_see_0 : decode cX4_see 0 = .ok (.aload_n 0, 1) := by decide +kernel
theorem dX4_see_1 : decode cX4_see 1 = .ok (.iload_n 1, 1) := by decide +kernel
theorem dX4_see_2 : decode cX4_see 2 = .ok (.invokestatic 83, 3) := by decide +kernel
theorem dX4_see_5 : decode cX4_see 5 = .ok (.ifCond .eq 24, 3) := by decide +kernel
theorem dX4_see_8 : decode cX4_see 8 = .ok (.aload_n 0, 1) := by decide +kernel
theorem dX4_see_9 : decode cX4_see 9 = .ok (.iload_n 2, 1) := by decide +kernel
theorem dX4_see_10 : decode cX4_see 10 = .ok (.invokevirtual 110, 3) := by decide +kernel
theorem dX4_see_13 : decode cX4_see 13 = .ok (.ifCond .eq 16, 3) := by decide +kernel
theorem dX4_see_16 : decode cX4_see 16 = .ok (.iload_n 3, 1) := by decide +kernel
theorem dX4_see_17 : decode cX4_see 17 = .ok (.iconst 0, 1) := by decide +kernel
theorem dX4_see_18 : decode cX4_see 18 = .ok (.iconst 1, 1) := by decide +kernel
theorem dX4_see_19 : decode cX4_see 19 = .ok (.invokestatic 20, 3) := by decide +kernel
theorem dX4_see_22 : decode cX4_see 22 = .ok (.ifCond .eq 7, 3) := by decide +kernel
theorem dX4_see_25 : decode cX4_see 25 = .ok (.iconst 0, 1) := by decide +kernel
theorem dX4_see_26 : decode cX4_see 26 = .ok (.goto 4, 3) := by decide +kernel
theorem dX4_see_29 : decode cX4_see 29 = .ok (.iconst 1, 1) := by decide +kernel
theorem dX4_see_30 : decode cX4_see 30 = .ok (.invokevirtual 86, 3) := by decide +kernel
theorem dX4_see_33 : decode cX4_see 33 = .ok (.ifCond .eq 13, 3) := by decide +kernel
theorem dX4_see_36 : decode cX4_see 36 = .ok (.aload_n 0, 1) := by decide +kernel
theorem dX4_see_37 : decode cX4_see 37 = .ok (.iload_n 1, 1) := by decide +kernel
theorem dX4_see_38 : decode cX4_see 38 = .ok (.iload_n 2, 1) := by decide +kernel
theorem dX4_see_39 : decode cX4_see 39 = .ok (.iload_n 3, 1) := by decide +kernel
theorem dX4_see_40 : decode cX4_see 40 = .ok (.invokevirtual 119, 3) := by decide +kernel
theorem dX4_see_43 : decode cX4_see 43 = .ok (.goto 4, 3) := by decide +kernel
theorem dX4_see_46 : decode cX4_see 46 = .ok (.iconst 0, 1) := by decide +kernel
theorem dX4_see_47 : decode cX4_see 47 = .ok (.ireturn, 1) := by decide +kernel
theorem dX4_knownTo_0 : decode cX4_knownTo 0 = .ok (.iconst 0, 1) := by decide +kernel
theorem dX4_knownTo_1 : decode cX4_knownTo 1 = .ok (.istore_n 2, 1) := by decide +kernel
theorem dX4_knownTo_2 : decode cX4_knownTo 2 = .ok (.iconst 0, 1) := by decide +kernel
theorem dX4_knownTo_3 : decode cX4_knownTo 3 = .ok (.istore_n 3, 1) := by decide +kernel
theorem dX4_knownTo_4 : decode cX4_knownTo 4 = .ok (.iload_n 3, 1) := by decide +kernel
theorem dX4_knownTo_5 : decode cX4_knownTo 5 = .ok (.iconst 2, 1) := by decide +kernel
theorem dX4_knownTo_6 : decode cX4_knownTo 6 = .ok (.aload_n 0, 1) := by decide +kernel
theorem dX4_knownTo_7 : decode cX4_knownTo 7 = .ok (.getfield 7, 3) := by decide +kernel
theorem dX4_knownTo_10 : decode cX4_knownTo 10 = .ok (.iconst 0, 1) := by decide +kernel
theorem dX4_knownTo_11 : decode cX4_knownTo 11 = .ok (.iaload, 1) := by decide +kernel
theorem dX4_knownTo_12 : decode cX4_knownTo 12 = .ok (.imul, 1) := by decide +kernel
theorem dX4_knownTo_13 : decode cX4_knownTo 13 = .ok (.if_icmp .ge 41, 3) := by decide +kernel
theorem dX4_knownTo_16 : decode cX4_knownTo 16 = .ok (.aload_n 0, 1) := by decide +kernel
theorem dX4_knownTo_17 : decode cX4_knownTo 17 = .ok (.iload_n 1, 1) := by decide +kernel
theorem dX4_knownTo_18 : decode cX4_knownTo 18 = .ok (.iload_n 3, 1) := by decide +kernel
theorem dX4_knownTo_19 : decode cX4_knownTo 19 = .ok (.iconst 2, 1) := by decide +kernel
theorem dX4_knownTo_20 : decode cX4_knownTo 20 = .ok (.idiv, 1) := by decide +kernel
theorem dX4_knownTo_21 : decode cX4_knownTo 21 = .ok (.iload_n 3, 1) := by decide +kernel
theorem dX4_knownTo_22 : decode cX4_knownTo 22 = .ok (.iconst 2, 1) := by decide +kernel
theorem dX4_knownTo_23 : decode cX4_knownTo 23 = .ok (.irem, 1) := by decide +kernel
theorem dX4_knownTo_24 : decode cX4_knownTo 24 = .ok (.invokevirtual 119, 3) := by decide +kernel
theorem dX4_knownTo_27 : decode cX4_knownTo 27 = .ok (.istore 4, 2) := by decide +kernel
theorem dX4_knownTo_29 : decode cX4_knownTo 29 = .ok (.iload_n 2, 1) := by decide +kernel
theorem dX4_knownTo_30 : decode cX4_knownTo 30 = .ok (.iload 4, 2) := by decide +kernel
theorem dX4_knownTo_32 : decode cX4_knownTo 32 = .ok (.invokestatic 83, 3) := by decide +kernel
theorem dX4_knownTo_35 : decode cX4_knownTo 35 = .ok (.ifCond .eq 10, 3) := by decide +kernel
theorem dX4_knownTo_38 : decode cX4_knownTo 38 = .ok (.iconst 1, 1) := by decide +kernel
theorem dX4_knownTo_39 : decode cX4_knownTo 39 = .ok (.iload 4, 2) := by decide +kernel
theorem dX4_knownTo_41 : decode cX4_knownTo 41 = .ok (.ishl, 1) := by decide +kernel
theorem dX4_knownTo_42 : decode cX4_knownTo 42 = .ok (.goto 4, 3) := by decide +kernel
theorem dX4_knownTo_45 : decode cX4_knownTo 45 = .ok (.iconst 0, 1) := by decide +kernel
theorem dX4_knownTo_46 : decode cX4_knownTo 46 = .ok (.ior, 1) := by decide +kernel
theorem dX4_knownTo_47 : decode cX4_knownTo 47 = .ok (.istore_n 2, 1) := by decide +kernel
theorem dX4_knownTo_48 : decode cX4_knownTo 48 = .ok (.iinc 3 1, 3) := by decide +kernel
theorem dX4_knownTo_51 : decode cX4_knownTo 51 = .ok (.goto (-47), 3) := by decide +kernel
theorem dX4_knownTo_54 : decode cX4_knownTo 54 = .ok (.iload_n 2, 1) := by decide +kernel
theorem dX4_knownTo_55 : decode cX4_knownTo 55 = .ok (.ireturn, 1) := by decide +kernel
theorem dX4_known_0 : decode cX4_known 0 = .ok (.aload_n 0, 1) := by decide +kernel
theorem dX4_known_1 : decode cX4_known 1 = .ok (.iload_n 1, 1) := by decide +kernel
theorem dX4_known_2 : decode cX4_known 2 = .ok (.invokestatic 83, 3) := by decide +kernel
theorem dX4_known_5 : decode cX4_known 5 = .ok (.ifCond .eq 7, 3) := by decide +kernel
theorem dX4_known_8 : decode cX4_known 8 = .ok (.iconst 0, 1) := by decide +kernel
theorem dX4_known_9 : decode cX4_known 9 = .ok (.goto 4, 3) := by decide +kernel
theorem dX4_known_12 : decode cX4_known 12 = .ok (.iconst 1, 1) := by decide +kernel
theorem dX4_known_13 : decode cX4_known 13 = .ok (.invokevirtual 86, 3) := by decide +kernel
theorem dX4_known_16 : decode cX4_known 16 = .ok (.ifCond .eq 11, 3) := by decide +kernel
theorem dX4_known_19 : decode cX4_known 19 = .ok (.aload_n 0, 1) := by decide +kernel
theorem dX4_known_20 : decode cX4_known 20 = .ok (.iload_n 1, 1) := by decide +kernel
theorem dX4_known_21 : decode cX4_known 21 = .ok (.invokevirtual 123, 3) := by decide +kernel
theorem dX4_known_24 : decode cX4_known 24 = .ok (.goto 4, 3) := by decide +kernel
theorem dX4_known_27 : decode cX4_known 27 = .ok (.iconst 0, 1) := by decide +kernel
theorem dX4_known_28 : decode cX4_known 28 = .ok (.ireturn, 1) := by decide +kernel
theorem dX4_send_0 : decode cX4_send 0 = .ok (.aload_n 0, 1) := by decide +kernel
theorem dX4_send_1 : decode cX4_send 1 = .ok (.aload_n 0, 1) := by decide +kernel
theorem dX4_send_2 : decode cX4_send 2 = .ok (.iload_n 1, 1) := by decide +kernel
theorem dX4_send_3 : decode cX4_send 3 = .ok (.invokevirtual 110, 3) := by decide +kernel
theorem dX4_send_6 : decode cX4_send 6 = .ok (.ifCond .ne 7, 3) := by decide +kernel
theorem dX4_send_9 : decode cX4_send 9 = .ok (.iconst 1, 1) := by decide +kernel
theorem dX4_send_10 : decode cX4_send 10 = .ok (.goto 26, 3) := by decide +kernel
theorem dX4_send_13 : decode cX4_send 13 = .ok (.iload_n 2, 1) := by decide +kernel
theorem dX4_send_14 : decode cX4_send 14 = .ok (.invokestatic 92, 3) := by decide +kernel
theorem dX4_send_17 : decode cX4_send 17 = .ok (.ifCond .ne 7, 3) := by decide +kernel
theorem dX4_send_20 : decode cX4_send 20 = .ok (.iconst 2, 1) := by decide +kernel
theorem dX4_send_21 : decode cX4_send 21 = .ok (.goto 15, 3) := by decide +kernel
theorem dX4_send_24 : decode cX4_send 24 = .ok (.aload_n 0, 1) := by decide +kernel
theorem dX4_send_25 : decode cX4_send 25 = .ok (.invokevirtual 69, 3) := by decide +kernel
theorem dX4_send_28 : decode cX4_send 28 = .ok (.ifCond .ne 7, 3) := by decide +kernel
theorem dX4_send_31 : decode cX4_send 31 = .ok (.iconst 3, 1) := by decide +kernel
theorem dX4_send_32 : decode cX4_send 32 = .ok (.goto 4, 3) := by decide +kernel
theorem dX4_send_35 : decode cX4_send 35 = .ok (.iconst 0, 1) := by decide +kernel
theorem dX4_send_36 : decode cX4_send 36 = .ok (.invokevirtual 86, 3) := by decide +kernel
theorem dX4_send_39 : decode cX4_send 39 = .ok (.ifCond .ne 5, 3) := by decide +kernel
theorem dX4_send_42 : decode cX4_send 42 = .ok (.iconst 0, 1) := by decide +kernel
theorem dX4_send_43 : decode cX4_send 43 = .ok (.ireturn, 1) := by decide +kernel
theorem dX4_send_44 : decode cX4_send 44 = .ok (.aload_n 0, 1) := by decide +kernel
theorem dX4_send_45 : decode cX4_send 45 = .ok (.invokevirtual 80, 3) := by decide +kernel
theorem dX4_send_48 : decode cX4_send 48 = .ok (.aload_n 0, 1) := by decide +kernel
theorem dX4_send_49 : decode cX4_send 49 = .ok (.iload_n 1, 1) := by decide +kernel
theorem dX4_send_50 : decode cX4_send 50 = .ok (.iload_n 2, 1) := by decide +kernel
theorem dX4_send_51 : decode cX4_send 51 = .ok (.invokevirtual 126, 3) := by decide +kernel
theorem dX4_send_54 : decode cX4_send 54 = .ok (.ireturn, 1) := by decide +kernel
theorem dX4_answer_0 : decode cX4_answer 0 = .ok (.iload_n 1, 1) := by decide +kernel
theorem dX4_answer_1 : decode cX4_answer 1 = .ok (.invokestatic 95, 3) := by decide +kernel
theorem dX4_answer_4 : decode cX4_answer 4 = .ok (.istore_n 3, 1) := by decide +kernel
theorem dX4_answer_5 : decode cX4_answer 5 = .ok (.aload_n 0, 1) := by decide +kernel
theorem dX4_answer_6 : decode cX4_answer 6 = .ok (.iload_n 3, 1) := by decide +kernel
theorem dX4_answer_7 : decode cX4_answer 7 = .ok (.ifCond .ne 7, 3) := by decide +kernel
theorem dX4_answer_10 : decode cX4_answer 10 = .ok (.iconst 1, 1) := by decide +kernel
theorem dX4_answer_11 : decode cX4_answer 11 = .ok (.goto 27, 3) := by decide +kernel
theorem dX4_answer_14 : decode cX4_answer 14 = .ok (.iload_n 2, 1) := by decide +kernel
theorem dX4_answer_15 : decode cX4_answer 15 = .ok (.invokestatic 92, 3) := by decide +kernel
theorem dX4_answer_18 : decode cX4_answer 18 = .ok (.ifCond .ne 7, 3) := by decide +kernel
theorem dX4_answer_21 : decode cX4_answer 21 = .ok (.iconst 2, 1) := by decide +kernel
theorem dX4_answer_22 : decode cX4_answer 22 = .ok (.goto 16, 3) := by decide +kernel
theorem dX4_answer_25 : decode cX4_answer 25 = .ok (.aload_n 0, 1) := by decide +kernel
theorem dX4_answer_26 : decode cX4_answer 26 = .ok (.iload_n 1, 1) := by decide +kernel
theorem dX4_answer_27 : decode cX4_answer 27 = .ok (.invokevirtual 129, 3) := by decide +kernel
theorem dX4_answer_30 : decode cX4_answer 30 = .ok (.ifCond .ne 7, 3) := by decide +kernel
theorem dX4_answer_33 : decode cX4_answer 33 = .ok (.iconst 3, 1) := by decide +kernel
theorem dX4_answer_34 : decode cX4_answer 34 = .ok (.goto 4, 3) := by decide +kernel
theorem dX4_answer_37 : decode cX4_answer 37 = .ok (.iconst 0, 1) := by decide +kernel
theorem dX4_answer_38 : decode cX4_answer 38 = .ok (.invokevirtual 86, 3) := by decide +kernel
theorem dX4_answer_41 : decode cX4_answer 41 = .ok (.ifCond .ne 5, 3) := by decide +kernel
theorem dX4_answer_44 : decode cX4_answer 44 = .ok (.iconst 0, 1) := by decide +kernel
theorem dX4_answer_45 : decode cX4_answer 45 = .ok (.ireturn, 1) := by decide +kernel
theorem dX4_answer_46 : decode cX4_answer 46 = .ok (.aload_n 0, 1) := by decide +kernel
theorem dX4_answer_47 : decode cX4_answer 47 = .ok (.invokevirtual 80, 3) := by decide +kernel
theorem dX4_answer_50 : decode cX4_answer 50 = .ok (.aload_n 0, 1) := by decide +kernel
theorem dX4_answer_51 : decode cX4_answer 51 = .ok (.iload_n 1, 1) := by decide +kernel
theorem dX4_answer_52 : decode cX4_answer 52 = .ok (.iload_n 2, 1) := by decide +kernel
theorem dX4_answer_53 : decode cX4_answer 53 = .ok (.invokevirtual 132, 3) := by decide +kernel
theorem dX4_answer_56 : decode cX4_answer 56 = .ok (.ireturn, 1) := by decide +kernel
theorem dX4_pass_0 : decode cX4_pass 0 = .ok (.aload_n 0, 1) := by decide +kernel
theorem dX4_pass_1 : decode cX4_pass 1 = .ok (.iload_n 1, 1) := by decide +kernel
theorem dX4_pass_2 : decode cX4_pass 2 = .ok (.iconst 1, 1) := by decide +kernel
theorem dX4_pass_3 : decode cX4_pass 3 = .ok (.bipush 9, 2) := by decide +kernel
theorem dX4_pass_5 : decode cX4_pass 5 = .ok (.invokestatic 20, 3) := by decide +kernel
theorem dX4_pass_8 : decode cX4_pass 8 = .ok (.ifCond .eq 7, 3) := by decide +kernel
theorem dX4_pass_11 : decode cX4_pass 11 = .ok (.iconst 0, 1) := by decide +kernel
theorem dX4_pass_12 : decode cX4_pass 12 = .ok (.goto 4, 3) := by decide +kernel
theorem dX4_pass_15 : decode cX4_pass 15 = .ok (.iconst 1, 1) := by decide +kernel
theorem dX4_pass_16 : decode cX4_pass 16 = .ok (.invokevirtual 86, 3) := by decide +kernel
theorem dX4_pass_19 : decode cX4_pass 19 = .ok (.ifCond .ne 5, 3) := by decide +kernel
theorem dX4_pass_22 : decode cX4_pass 22 = .ok (.iconst 0, 1) := by decide +kernel
theorem dX4_pass_23 : decode cX4_pass 23 = .ok (.ireturn, 1) := by decide +kernel
theorem dX4_pass_24 : decode cX4_pass 24 = .ok (.aload_n 0, 1) := by decide +kernel
theorem dX4_pass_25 : decode cX4_pass 25 = .ok (.invokevirtual 80, 3) := by decide +kernel
theorem dX4_pass_28 : decode cX4_pass 28 = .ok (.aload_n 0, 1) := by decide +kernel
theorem dX4_pass_29 : decode cX4_pass 29 = .ok (.iload_n 1, 1) := by decide +kernel
theorem dX4_pass_30 : decode cX4_pass 30 = .ok (.invokevirtual 135, 3) := by decide +kernel
theorem dX4_pass_33 : decode cX4_pass 33 = .ok (.ireturn, 1) := by decide +kernel
theorem dX4_envelopes_0 : decode cX4_envelopes 0 = .ok (.aload_n 0, 1) := by decide +kernel
theorem dX4_envelopes_1 : decode cX4_envelopes 1 = .ok (.aload_n 0, 1) := by decide +kernel
theorem dX4_envelopes_2 : decode cX4_envelopes 2 = .ok (.getfield 7, 3) := by decide +kernel
theorem dX4_envelopes_5 : decode cX4_envelopes 5 = .ok (.iconst 1, 1) := by decide +kernel
theorem dX4_envelopes_6 : decode cX4_envelopes 6 = .ok (.iaload, 1) := by decide +kernel
theorem dX4_envelopes_7 : decode cX4_envelopes 7 = .ok (.invokevirtual 107, 3) := by decide +kernel
theorem dX4_envelopes_10 : decode cX4_envelopes 10 = .ok (.ireturn, 1) := by decide +kernel
theorem dX4_envelope_0 : decode cX4_envelope 0 = .ok (.aload_n 0, 1) := by decide +kernel
theorem dX4_envelope_1 : decode cX4_envelope 1 = .ok (.aload_n 0, 1) := by decide +kernel
theorem dX4_envelope_2 : decode cX4_envelope 2 = .ok (.iload_n 1, 1) := by decide +kernel
theorem dX4_envelope_3 : decode cX4_envelope 3 = .ok (.invokevirtual 138, 3) := by decide +kernel
theorem dX4_envelope_6 : decode cX4_envelope 6 = .ok (.ifCond .eq 16, 3) := by decide +kernel
theorem dX4_envelope_9 : decode cX4_envelope 9 = .ok (.iload_n 2, 1) := by decide +kernel
theorem dX4_envelope_10 : decode cX4_envelope 10 = .ok (.iconst 0, 1) := by decide +kernel
theorem dX4_envelope_11 : decode cX4_envelope 11 = .ok (.iconst 3, 1) := by decide +kernel
theorem dX4_envelope_12 : decode cX4_envelope 12 = .ok (.invokestatic 20, 3) := by decide +kernel
theorem dX4_envelope_15 : decode cX4_envelope 15 = .ok (.ifCond .eq 7, 3) := by decide +kernel
theorem dX4_envelope_18 : decode cX4_envelope 18 = .ok (.iconst 0, 1) := by decide +kernel
theorem dX4_envelope_19 : decode cX4_envelope 19 = .ok (.goto 4, 3) := by decide +kernel
theorem dX4_envelope_22 : decode cX4_envelope 22 = .ok (.iconst 1, 1) := by decide +kernel
theorem dX4_envelope_23 : decode cX4_envelope 23 = .ok (.invokevirtual 86, 3) := by decide +kernel
theorem dX4_envelope_26 : decode cX4_envelope 26 = .ok (.ifCond .eq 12, 3) := by decide +kernel
theorem dX4_envelope_29 : decode cX4_envelope 29 = .ok (.aload_n 0, 1) := by decide +kernel
theorem dX4_envelope_30 : decode cX4_envelope 30 = .ok (.iload_n 1, 1) := by decide +kernel
theorem dX4_envelope_31 : decode cX4_envelope 31 = .ok (.iload_n 2, 1) := by decide +kernel
theorem dX4_envelope_32 : decode cX4_envelope 32 = .ok (.invokevirtual 46, 3) := by decide +kernel
theorem dX4_envelope_35 : decode cX4_envelope 35 = .ok (.goto 4, 3) := by decide +kernel
theorem dX4_envelope_38 : decode cX4_envelope 38 = .ok (.iconst 0, 1) := by decide +kernel
theorem dX4_envelope_39 : decode cX4_envelope 39 = .ok (.ireturn, 1) := by decide +kernel
theorem dX4_letter_0 : decode cX4_letter 0 = .ok (.aload_n 0, 1) := by decide +kernel
theorem dX4_letter_1 : decode cX4_letter 1 = .ok (.iload_n 1, 1) := by decide +kernel
theorem dX4_letter_2 : decode cX4_letter 2 = .ok (.invokestatic 95, 3) := by decide +kernel
theorem dX4_letter_5 : decode cX4_letter 5 = .ok (.ifCond .eq 7, 3) := by decide +kernel
theorem dX4_letter_8 : decode cX4_letter 8 = .ok (.iconst 0, 1) := by decide +kernel
theorem dX4_letter_9 : decode cX4_letter 9 = .ok (.goto 4, 3) := by decide +kernel
theorem dX4_letter_12 : decode cX4_letter 12 = .ok (.iconst 1, 1) := by decide +kernel
theorem dX4_letter_13 : decode cX4_letter 13 = .ok (.invokevirtual 86, 3) := by decide +kernel
theorem dX4_letter_16 : decode cX4_letter 16 = .ok (.ifCond .eq 15, 3) := by decide +kernel
theorem dX4_letter_19 : decode cX4_letter 19 = .ok (.aload_n 0, 1) := by decide +kernel
theorem dX4_letter_20 : decode cX4_letter 20 = .ok (.getfield 7, 3) := by decide +kernel
theorem dX4_letter_23 : decode cX4_letter 23 = .ok (.bipush 114, 2) := by decide +kernel
theorem dX4_letter_25 : decode cX4_letter 25 = .ok (.iload_n 1, 1) := by decide +kernel
theorem dX4_letter_26 : decode cX4_letter 26 = .ok (.iadd, 1) := by decide +kernel
theorem dX4_letter_27 : decode cX4_letter 27 = .ok (.iaload, 1) := by decide +kernel
theorem dX4_letter_28 : decode cX4_letter 28 = .ok (.goto 4, 3) := by decide +kernel
theorem dX4_letter_31 : decode cX4_letter 31 = .ok (.iconst 0, 1) := by decide +kernel
theorem dX4_letter_32 : decode cX4_letter 32 = .ok (.ireturn, 1) := by decide +kernel
theorem dX4_lastAnswer_0 : decode cX4_lastAnswer 0 = .ok (.aload_n 0, 1) := by decide +kernel
theorem dX4_lastAnswer_1 : decode cX4_lastAnswer 1 = .ok (.aload_n 0, 1) := by decide +kernel
theorem dX4_lastAnswer_2 : decode cX4_lastAnswer 2 = .ok (.getfield 7, 3) := by decide +kernel
theorem dX4_lastAnswer_5 : decode cX4_lastAnswer 5 = .ok (.iconst 2, 1) := by decide +kernel
theorem dX4_lastAnswer_6 : decode cX4_lastAnswer 6 = .ok (.iaload, 1) := by decide +kernel
theorem dX4_lastAnswer_7 : decode cX4_lastAnswer 7 = .ok (.invokevirtual 107, 3) := by decide +kernel
theorem dX4_lastAnswer_10 : decode cX4_lastAnswer 10 = .ok (.ireturn, 1) := by decide +kernel
theorem dX4_count_0 : decode cX4_count 0 = .ok (.aload_n 0, 1) := by decide +kernel
theorem dX4_count_1 : decode cX4_count 1 = .ok (.iload_n 1, 1) := by decide +kernel
theorem dX4_count_2 : decode cX4_count 2 = .ok (.iconst 0, 1) := by decide +kernel
theorem dX4_count_3 : decode cX4_count 3 = .ok (.iconst 4, 1) := by decide +kernel
theorem dX4_count_4 : decode cX4_count 4 = .ok (.invokestatic 20, 3) := by decide +kernel
theorem dX4_count_7 : decode cX4_count 7 = .ok (.ifCond .eq 7, 3) := by decide +kernel
theorem dX4_count_10 : decode cX4_count 10 = .ok (.iconst 0, 1) := by decide +kernel
theorem dX4_count_11 : decode cX4_count 11 = .ok (.goto 4, 3) := by decide +kernel
theorem dX4_count_14 : decode cX4_count 14 = .ok (.iconst 1, 1) := by decide +kernel
theorem dX4_count_15 : decode cX4_count 15 = .ok (.invokevirtual 86, 3) := by decide +kernel
theorem dX4_count_18 : decode cX4_count 18 = .ok (.ifCond .eq 14, 3) := by decide +kernel
theorem dX4_count_21 : decode cX4_count 21 = .ok (.aload_n 0, 1) := by decide +kernel
theorem dX4_count_22 : decode cX4_count 22 = .ok (.getfield 7, 3) := by decide +kernel
theorem dX4_count_25 : decode cX4_count 25 = .ok (.iconst 3, 1) := by decide +kernel
theorem dX4_count_26 : decode cX4_count 26 = .ok (.iload_n 1, 1) := by decide +kernel
theorem dX4_count_27 : decode cX4_count 27 = .ok (.iadd, 1) := by decide +kernel
theorem dX4_count_28 : decode cX4_count 28 = .ok (.iaload, 1) := by decide +kernel
theorem dX4_count_29 : decode cX4_count 29 = .ok (.goto 4, 3) := by decide +kernel
theorem dX4_count_32 : decode cX4_count 32 = .ok (.iconst 0, 1) := by decide +kernel
theorem dX4_count_33 : decode cX4_count 33 = .ok (.ireturn, 1) := by decide +kernel
theorem dX4_deliveredShare_0 : decode cX4_deliveredShare 0 = .ok (.aload_n 0, 1) := by decide +kernel
theorem dX4_deliveredShare_1 : decode cX4_deliveredShare 1 = .ok (.iconst 0, 1) := by decide +kernel
theorem dX4_deliveredShare_2 : decode cX4_deliveredShare 2 = .ok (.putfield 16, 3) := by decide +kernel
theorem dX4_deliveredShare_5 : decode cX4_deliveredShare 5 = .ok (.aload_n 0, 1) := by decide +kernel
theorem dX4_deliveredShare_6 : decode cX4_deliveredShare 6 = .ok (.getfield 7, 3) := by decide +kernel
theorem dX4_deliveredShare_9 : decode cX4_deliveredShare 9 = .ok (.iconst 3, 1) := by decide +kernel
theorem dX4_deliveredShare_10 : decode cX4_deliveredShare 10 = .ok (.iaload, 1) := by decide +kernel
theorem dX4_deliveredShare_11 : decode cX4_deliveredShare 11 = .ok (.ifCond .ne 7, 3) := by decide +kernel
theorem dX4_deliveredShare_14 : decode cX4_deliveredShare 14 = .ok (.dconst 1, 1) := by decide +kernel
theorem dX4_deliveredShare_15 : decode cX4_deliveredShare 15 = .ok (.goto 18, 3) := by decide +kernel
theorem dX4_deliveredShare_18 : decode cX4_deliveredShare 18 = .ok (.aload_n 0, 1) := by decide +kernel
theorem dX4_deliveredShare_19 : decode cX4_deliveredShare 19 = .ok (.getfield 7, 3) := by decide +kernel
theorem dX4_deliveredShare_22 : decode cX4_deliveredShare 22 = .ok (.iconst 4, 1) := by decide +kernel
theorem dX4_deliveredShare_23 : decode cX4_deliveredShare 23 = .ok (.iaload, 1) := by decide +kernel
theorem dX4_deliveredShare_24 : decode cX4_deliveredShare 24 = .ok (.i2d, 1) := by decide +kernel
theorem dX4_deliveredShare_25 : decode cX4_deliveredShare 25 = .ok (.aload_n 0, 1) := by decide +kernel
theorem dX4_deliveredShare_26 : decode cX4_deliveredShare 26 = .ok (.getfield 7, 3) := by decide +kernel
theorem dX4_deliveredShare_29 : decode cX4_deliveredShare 29 = .ok (.iconst 3, 1) := by decide +kernel
theorem dX4_deliveredShare_30 : decode cX4_deliveredShare 30 = .ok (.iaload, 1) := by decide +kernel
theorem dX4_deliveredShare_31 : decode cX4_deliveredShare 31 = .ok (.i2d, 1) := by decide +kernel
theorem dX4_deliveredShare_32 : decode cX4_deliveredShare 32 = .ok (.ddiv, 1) := by decide +kernel
theorem dX4_deliveredShare_33 : decode cX4_deliveredShare 33 = .ok (.dreturn, 1) := by decide +kernel
theorem dX4_lostBy_0 : decode cX4_lostBy 0 = .ok (.iconst 0, 1) := by decide +kernel
theorem dX4_lostBy_1 : decode cX4_lostBy 1 = .ok (.istore_n 2, 1) := by decide +kernel
theorem dX4_lostBy_2 : decode cX4_lostBy 2 = .ok (.iconst 0, 1) := by decide +kernel
theorem dX4_lostBy_3 : decode cX4_lostBy 3 = .ok (.istore_n 3, 1) := by decide +kernel
theorem dX4_lostBy_4 : decode cX4_lostBy 4 = .ok (.iload_n 3, 1) := by decide +kernel
theorem dX4_lostBy_5 : decode cX4_lostBy 5 = .ok (.aload_n 0, 1) := by decide +kernel
theorem dX4_lostBy_6 : decode cX4_lostBy 6 = .ok (.getfield 7, 3) := by decide +kernel
theorem dX4_lostBy_9 : decode cX4_lostBy 9 = .ok (.iconst 1, 1) := by decide +kernel
theorem dX4_lostBy_10 : decode cX4_lostBy 10 = .ok (.iaload, 1) := by decide +kernel
theorem dX4_lostBy_11 : decode cX4_lostBy 11 = .ok (.if_icmp .ge 27, 3) := by decide +kernel
theorem dX4_lostBy_14 : decode cX4_lostBy 14 = .ok (.iload_n 2, 1) := by decide +kernel
theorem dX4_lostBy_15 : decode cX4_lostBy 15 = .ok (.aload_n 0, 1) := by decide +kernel
theorem dX4_lostBy_16 : decode cX4_lostBy 16 = .ok (.iload_n 3, 1) := by decide +kernel
theorem dX4_lostBy_17 : decode cX4_lostBy 17 = .ok (.iload_n 1, 1) := by decide +kernel
theorem dX4_lostBy_18 : decode cX4_lostBy 18 = .ok (.invokevirtual 141, 3) := by decide +kernel
theorem dX4_lostBy_21 : decode cX4_lostBy 21 = .ok (.iconst (-1), 1) := by decide +kernel
theorem dX4_lostBy_22 : decode cX4_lostBy 22 = .ok (.if_icmp .ne 7, 3) := by decide +kernel
theorem dX4_lostBy_25 : decode cX4_lostBy 25 = .ok (.iconst 1, 1) := by decide +kernel
theorem dX4_lostBy_26 : decode cX4_lostBy 26 = .ok (.goto 4, 3) := by decide +kernel
theorem dX4_lostBy_29 : decode cX4_lostBy 29 = .ok (.iconst 0, 1) := by decide +kernel
theorem dX4_lostBy_30 : decode cX4_lostBy 30 = .ok (.iadd, 1) := by decide +kernel
theorem dX4_lostBy_31 : decode cX4_lostBy 31 = .ok (.istore_n 2, 1) := by decide +kernel
theorem dX4_lostBy_32 : decode cX4_lostBy 32 = .ok (.iinc 3 1, 3) := by decide +kernel
theorem dX4_lostBy_35 : decode cX4_lostBy 35 = .ok (.goto (-31), 3) := by decide +kernel
theorem dX4_lostBy_38 : decode cX4_lostBy 38 = .ok (.iload_n 2, 1) := by decide +kernel
theorem dX4_lostBy_39 : decode cX4_lostBy 39 = .ok (.ireturn, 1) := by decide +kernel
theorem dX4_lostIfClosed_0 : decode cX4_lostIfClosed 0 = .ok (.aload_n 0, 1) := by decide +kernel
theorem dX4_lostIfClosed_1 : decode cX4_lostIfClosed 1 = .ok (.iload_n 1, 1) := by decide +kernel
theorem dX4_lostIfClosed_2 : decode cX4_lostIfClosed 2 = .ok (.invokestatic 83, 3) := by decide +kernel
theorem dX4_lostIfClosed_5 : decode cX4_lostIfClosed 5 = .ok (.ifCond .eq 7, 3) := by decide +kernel
theorem dX4_lostIfClosed_8 : decode cX4_lostIfClosed 8 = .ok (.iconst 0, 1) := by decide +kernel
theorem dX4_lostIfClosed_9 : decode cX4_lostIfClosed 9 = .ok (.goto 4, 3) := by decide +kernel
theorem dX4_lostIfClosed_12 : decode cX4_lostIfClosed 12 = .ok (.iconst 1, 1) := by decide +kernel
theorem dX4_lostIfClosed_13 : decode cX4_lostIfClosed 13 = .ok (.invokevirtual 86, 3) := by decide +kernel
theorem dX4_lostIfClosed_16 : decode cX4_lostIfClosed 16 = .ok (.ifCond .eq 11, 3) := by decide +kernel
theorem dX4_lostIfClosed_19 : decode cX4_lostIfClosed 19 = .ok (.aload_n 0, 1) := by decide +kernel
theorem dX4_lostIfClosed_20 : decode cX4_lostIfClosed 20 = .ok (.iload_n 1, 1) := by decide +kernel
theorem dX4_lostIfClosed_21 : decode cX4_lostIfClosed 21 = .ok (.invokevirtual 144, 3) := by decide +kernel
theorem dX4_lostIfClosed_24 : decode cX4_lostIfClosed 24 = .ok (.goto 4, 3) := by decide +kernel
theorem dX4_lostIfClosed_27 : decode cX4_lostIfClosed 27 = .ok (.iconst 0, 1) := by decide +kernel
theorem dX4_lostIfClosed_28 : decode cX4_lostIfClosed 28 = .ok (.ireturn, 1) := by decide +kernel
theorem dX4_ticksTo_0 : decode cX4_ticksTo 0 = .ok (.aload_n 0, 1) := by decide +kernel
theorem dX4_ticksTo_1 : decode cX4_ticksTo 1 = .ok (.aload_n 0, 1) := by decide +kernel
theorem dX4_ticksTo_2 : decode cX4_ticksTo 2 = .ok (.iload_n 1, 1) := by decide +kernel
theorem dX4_ticksTo_3 : decode cX4_ticksTo 3 = .ok (.invokevirtual 138, 3) := by decide +kernel
theorem dX4_ticksTo_6 : decode cX4_ticksTo 6 = .ok (.ifCond .eq 7, 3) := by decide +kernel
theorem dX4_ticksTo_9 : decode cX4_ticksTo 9 = .ok (.iconst 0, 1) := by decide +kernel
theorem dX4_ticksTo_10 : decode cX4_ticksTo 10 = .ok (.goto 4, 3) := by decide +kernel
theorem dX4_ticksTo_13 : decode cX4_ticksTo 13 = .ok (.iconst 1, 1) := by decide +kernel
theorem dX4_ticksTo_14 : decode cX4_ticksTo 14 = .ok (.invokevirtual 86, 3) := by decide +kernel
theorem dX4_ticksTo_17 : decode cX4_ticksTo 17 = .ok (.ifCond .eq 12, 3) := by decide +kernel
theorem dX4_ticksTo_20 : decode cX4_ticksTo 20 = .ok (.aload_n 0, 1) := by decide +kernel
theorem dX4_ticksTo_21 : decode cX4_ticksTo 21 = .ok (.iload_n 1, 1) := by decide +kernel
theorem dX4_ticksTo_22 : decode cX4_ticksTo 22 = .ok (.iconst (-1), 1) := by decide +kernel
theorem dX4_ticksTo_23 : decode cX4_ticksTo 23 = .ok (.invokevirtual 141, 3) := by decide +kernel
theorem dX4_ticksTo_26 : decode cX4_ticksTo 26 = .ok (.goto 4, 3) := by decide +kernel
theorem dX4_ticksTo_29 : decode cX4_ticksTo 29 = .ok (.iconst 0, 1) := by decide +kernel
theorem dX4_ticksTo_30 : decode cX4_ticksTo 30 = .ok (.ireturn, 1) := by decide +kernel
theorem dX4_work_0 : decode cX4_work 0 = .ok (.iconst 0, 1) := by decide +kernel
theorem dX4_work_1 : decode cX4_work 1 = .ok (.istore_n 2, 1) := by decide +kernel
theorem dX4_work_2 : decode cX4_work 2 = .ok (.iconst 0, 1) := by decide +kernel
theorem dX4_work_3 : decode cX4_work 3 = .ok (.istore_n 3, 1) := by decide +kernel
theorem dX4_work_4 : decode cX4_work 4 = .ok (.iload_n 3, 1) := by decide +kernel
theorem dX4_work_5 : decode cX4_work 5 = .ok (.aload_n 0, 1) := by decide +kernel
theorem dX4_work_6 : decode cX4_work 6 = .ok (.getfield 7, 3) := by decide +kernel
theorem dX4_work_9 : decode cX4_work 9 = .ok (.iconst 0, 1) := by decide +kernel
theorem dX4_work_10 : decode cX4_work 10 = .ok (.iaload, 1) := by decide +kernel
theorem dX4_work_11 : decode cX4_work 11 = .ok (.if_icmp .ge 26, 3) := by decide +kernel
theorem dX4_work_14 : decode cX4_work 14 = .ok (.iload_n 2, 1) := by decide +kernel
theorem dX4_work_15 : decode cX4_work 15 = .ok (.aload_n 0, 1) := by decide +kernel
theorem dX4_work_16 : decode cX4_work 16 = .ok (.iload_n 1, 1) := by decide +kernel
theorem dX4_work_17 : decode cX4_work 17 = .ok (.iload_n 3, 1) := by decide +kernel
theorem dX4_work_18 : decode cX4_work 18 = .ok (.invokevirtual 116, 3) := by decide +kernel
theorem dX4_work_21 : decode cX4_work 21 = .ok (.ifCond .le 7, 3) := by decide +kernel
theorem dX4_work_24 : decode cX4_work 24 = .ok (.iconst 1, 1) := by decide +kernel
theorem dX4_work_25 : decode cX4_work 25 = .ok (.goto 4, 3) := by decide +kernel
theorem dX4_work_28 : decode cX4_work 28 = .ok (.iconst 0, 1) := by decide +kernel
theorem dX4_work_29 : decode cX4_work 29 = .ok (.iadd, 1) := by decide +kernel
theorem dX4_work_30 : decode cX4_work 30 = .ok (.istore_n 2, 1) := by decide +kernel
theorem dX4_work_31 : decode cX4_work 31 = .ok (.iinc 3 1, 3) := by decide +kernel
theorem dX4_work_34 : decode cX4_work 34 = .ok (.goto (-30), 3) := by decide +kernel
theorem dX4_work_37 : decode cX4_work 37 = .ok (.bipush 8, 2) := by decide +kernel
theorem dX4_work_39 : decode cX4_work 39 = .ok (.iload_n 2, 1) := by decide +kernel
theorem dX4_work_40 : decode cX4_work 40 = .ok (.imul, 1) := by decide +kernel
theorem dX4_work_41 : decode cX4_work 41 = .ok (.iload_n 1, 1) := by decide +kernel
theorem dX4_work_42 : decode cX4_work 42 = .ok (.iadd, 1) := by decide +kernel
theorem dX4_work_43 : decode cX4_work 43 = .ok (.ireturn, 1) := by decide +kernel
theorem dX4_least_0 : decode cX4_least 0 = .ok (.iconst 0, 1) := by decide +kernel
theorem dX4_least_1 : decode cX4_least 1 = .ok (.istore_n 2, 1) := by decide +kernel
theorem dX4_least_2 : decode cX4_least 2 = .ok (.iload_n 2, 1) := by decide +kernel
theorem dX4_least_3 : decode cX4_least 3 = .ok (.bipush 8, 2) := by decide +kernel
theorem dX4_least_5 : decode cX4_least 5 = .ok (.if_icmp .ge 75, 3) := by decide +kernel
theorem dX4_least_8 : decode cX4_least 8 = .ok (.iconst 0, 1) := by decide +kernel
theorem dX4_least_9 : decode cX4_least 9 = .ok (.istore_n 3, 1) := by decide +kernel
theorem dX4_least_10 : decode cX4_least 10 = .ok (.iconst 0, 1) := by decide +kernel
theorem dX4_least_11 : decode cX4_least 11 = .ok (.istore 4, 2) := by decide +kernel
theorem dX4_least_13 : decode cX4_least 13 = .ok (.iload 4, 2) := by decide +kernel
theorem dX4_least_15 : decode cX4_least 15 = .ok (.bipush 8, 2) := by decide +kernel
theorem dX4_least_17 : decode cX4_least 17 = .ok (.if_icmp .ge 40, 3) := by decide +kernel
theorem dX4_least_20 : decode cX4_least 20 = .ok (.iload_n 3, 1) := by decide +kernel
theorem dX4_least_21 : decode cX4_least 21 = .ok (.aload_n 0, 1) := by decide +kernel
theorem dX4_least_22 : decode cX4_least 22 = .ok (.iload 4, 2) := by decide +kernel
theorem dX4_least_24 : decode cX4_least 24 = .ok (.invokevirtual 28, 3) := by decide +kernel
theorem dX4_least_27 : decode cX4_least 27 = .ok (.ifCond .eq 21, 3) := by decide +kernel
theorem dX4_least_30 : decode cX4_least 30 = .ok (.aload_n 0, 1) := by decide +kernel
theorem dX4_least_31 : decode cX4_least 31 = .ok (.iload 4, 2) := by decide +kernel
theorem dX4_least_33 : decode cX4_least 33 = .ok (.invokevirtual 147, 3) := by decide +kernel
theorem dX4_least_36 : decode cX4_least 36 = .ok (.aload_n 0, 1) := by decide +kernel
theorem dX4_least_37 : decode cX4_least 37 = .ok (.iload_n 2, 1) := by decide +kernel
theorem dX4_least_38 : decode cX4_least 38 = .ok (.invokevirtual 147, 3) := by decide +kernel
theorem dX4_least_41 : decode cX4_least 41 = .ok (.if_icmp .ge 7, 3) := by decide +kernel
theorem dX4_least_44 : decode cX4_least 44 = .ok (.iconst 1, 1) := by decide +kernel
theorem dX4_least_45 : decode cX4_least 45 = .ok (.goto 4, 3) := by decide +kernel
theorem dX4_least_48 : decode cX4_least 48 = .ok (.iconst 0, 1) := by decide +kernel
theorem dX4_least_49 : decode cX4_least 49 = .ok (.iadd, 1) := by decide +kernel
theorem dX4_least_50 : decode cX4_least 50 = .ok (.istore_n 3, 1) := by decide +kernel
theorem dX4_least_51 : decode cX4_least 51 = .ok (.iinc 4 1, 3) := by decide +kernel
theorem dX4_least_54 : decode cX4_least 54 = .ok (.goto (-41), 3) := by decide +kernel
theorem dX4_least_57 : decode cX4_least 57 = .ok (.aload_n 0, 1) := by decide +kernel
theorem dX4_least_58 : decode cX4_least 58 = .ok (.iload_n 2, 1) := by decide +kernel
theorem dX4_least_59 : decode cX4_least 59 = .ok (.invokevirtual 28, 3) := by decide +kernel
theorem dX4_least_62 : decode cX4_least 62 = .ok (.ifCond .eq 12, 3) := by decide +kernel
theorem dX4_least_65 : decode cX4_least 65 = .ok (.iload_n 3, 1) := by decide +kernel
theorem dX4_least_66 : decode cX4_least 66 = .ok (.iload_n 1, 1) := by decide +kernel
theorem dX4_least_67 : decode cX4_least 67 = .ok (.iconst 1, 1) := by decide +kernel
theorem dX4_least_68 : decode cX4_least 68 = .ok (.isub, 1) := by decide +kernel
theorem dX4_least_69 : decode cX4_least 69 = .ok (.if_icmp .ne 5, 3) := by decide +kernel
theorem dX4_least_72 : decode cX4_least 72 = .ok (.iload_n 2, 1) := by decide +kernel
theorem dX4_least_73 : decode cX4_least 73 = .ok (.ireturn, 1) := by decide +kernel
theorem dX4_least_74 : decode cX4_least 74 = .ok (.iinc 2 1, 3) := by decide +kernel
theorem dX4_least_77 : decode cX4_least 77 = .ok (.goto (-75), 3) := by decide +kernel
theorem dX4_least_80 : decode cX4_least 80 = .ok (.iconst (-1), 1) := by decide +kernel
theorem dX4_least_81 : decode cX4_least 81 = .ok (.ireturn, 1) := by decide +kernel
theorem dX4_leastWork_0 : decode cX4_leastWork 0 = .ok (.aload_n 0, 1) := by decide +kernel
theorem dX4_leastWork_1 : decode cX4_leastWork 1 = .ok (.iload_n 1, 1) := by decide +kernel
theorem dX4_leastWork_2 : decode cX4_leastWork 2 = .ok (.iconst 1, 1) := by decide +kernel
theorem dX4_leastWork_3 : decode cX4_leastWork 3 = .ok (.iconst 3, 1) := by decide +kernel
theorem dX4_leastWork_4 : decode cX4_leastWork 4 = .ok (.invokestatic 20, 3) := by decide +kernel
theorem dX4_leastWork_7 : decode cX4_leastWork 7 = .ok (.ifCond .eq 7, 3) := by decide +kernel
theorem dX4_leastWork_10 : decode cX4_leastWork 10 = .ok (.iconst 0, 1) := by decide +kernel
theorem dX4_leastWork_11 : decode cX4_leastWork 11 = .ok (.goto 4, 3) := by decide +kernel
theorem dX4_leastWork_14 : decode cX4_leastWork 14 = .ok (.iconst 1, 1) := by decide +kernel
theorem dX4_leastWork_15 : decode cX4_leastWork 15 = .ok (.invokevirtual 86, 3) := by decide +kernel
theorem dX4_leastWork_18 : decode cX4_leastWork 18 = .ok (.ifCond .eq 11, 3) := by decide +kernel
theorem dX4_leastWork_21 : decode cX4_leastWork 21 = .ok (.aload_n 0, 1) := by decide +kernel
theorem dX4_leastWork_22 : decode cX4_leastWork 22 = .ok (.iload_n 1, 1) := by decide +kernel
theorem dX4_leastWork_23 : decode cX4_leastWork 23 = .ok (.invokevirtual 150, 3) := by decide +kernel
theorem dX4_leastWork_26 : decode cX4_leastWork 26 = .ok (.goto 4, 3) := by decide +kernel
theorem dX4_leastWork_29 : decode cX4_leastWork 29 = .ok (.iconst 0, 1) := by decide +kernel
theorem dX4_leastWork_30 : decode cX4_leastWork 30 = .ok (.ireturn, 1) := by decide +kernel
theorem dX4_append_0 : decode cX4_append 0 = .ok (.aload_n 0, 1) := by decide +kernel
theorem dX4_append_1 : decode cX4_append 1 = .ok (.iload_n 1, 1) := by decide +kernel
theorem dX4_append_2 : decode cX4_append 2 = .ok (.bipush 33, 2) := by decide +kernel
theorem dX4_append_4 : decode cX4_append 4 = .ok (.bipush 126, 2) := by decide +kernel
theorem dX4_append_6 : decode cX4_append 6 = .ok (.invokestatic 20, 3) := by decide +kernel
theorem dX4_append_9 : decode cX4_append 9 = .ok (.ifCond .ne 7, 3) := by decide +kernel
theorem dX4_append_12 : decode cX4_append 12 = .ok (.iconst 1, 1) := by decide +kernel
theorem dX4_append_13 : decode cX4_append 13 = .ok (.goto 17, 3) := by decide +kernel
theorem dX4_append_16 : decode cX4_append 16 = .ok (.aload_n 0, 1) := by decide +kernel
theorem dX4_append_17 : decode cX4_append 17 = .ok (.getfield 153, 3) := by decide +kernel
theorem dX4_append_20 : decode cX4_append 20 = .ok (.bipush 60, 2) := by decide +kernel
theorem dX4_append_22 : decode cX4_append 22 = .ok (.if_icmp .ne 7, 3) := by decide +kernel
theorem dX4_append_25 : decode cX4_append 25 = .ok (.iconst 2, 1) := by decide +kernel
theorem dX4_append_26 : decode cX4_append 26 = .ok (.goto 4, 3) := by decide +kernel
theorem dX4_append_29 : decode cX4_append 29 = .ok (.iconst 0, 1) := by decide +kernel
theorem dX4_append_30 : decode cX4_append 30 = .ok (.invokevirtual 86, 3) := by decide +kernel
theorem dX4_append_33 : decode cX4_append 33 = .ok (.ifCond .ne 5, 3) := by decide +kernel
theorem dX4_append_36 : decode cX4_append 36 = .ok (.iconst 0, 1) := by decide +kernel
theorem dX4_append_37 : decode cX4_append 37 = .ok (.ireturn, 1) := by decide +kernel
theorem dX4_append_38 : decode cX4_append 38 = .ok (.aload_n 0, 1) := by decide +kernel
theorem dX4_append_39 : decode cX4_append 39 = .ok (.getfield 13, 3) := by decide +kernel
theorem dX4_append_42 : decode cX4_append 42 = .ok (.aload_n 0, 1) := by decide +kernel
theorem dX4_append_43 : decode cX4_append 43 = .ok (.getfield 153, 3) := by decide +kernel
theorem dX4_append_46 : decode cX4_append 46 = .ok (.iload_n 1, 1) := by decide +kernel
theorem dX4_append_47 : decode cX4_append 47 = .ok (.iastore, 1) := by decide +kernel
theorem dX4_append_48 : decode cX4_append 48 = .ok (.aload_n 0, 1) := by decide +kernel
theorem dX4_append_49 : decode cX4_append 49 = .ok (.dup, 1) := by decide +kernel
theorem dX4_append_50 : decode cX4_append 50 = .ok (.getfield 153, 3) := by decide +kernel
theorem dX4_append_53 : decode cX4_append 53 = .ok (.iconst 1, 1) := by decide +kernel
theorem dX4_append_54 : decode cX4_append 54 = .ok (.iadd, 1) := by decide +kernel
theorem dX4_append_55 : decode cX4_append 55 = .ok (.putfield 153, 3) := by decide +kernel
theorem dX4_append_58 : decode cX4_append 58 = .ok (.aload_n 0, 1) := by decide +kernel
theorem dX4_append_59 : decode cX4_append 59 = .ok (.getfield 153, 3) := by decide +kernel
theorem dX4_append_62 : decode cX4_append 62 = .ok (.ireturn, 1) := by decide +kernel
theorem dX4_clearText_0 : decode cX4_clearText 0 = .ok (.aload_n 0, 1) := by decide +kernel
theorem dX4_clearText_1 : decode cX4_clearText 1 = .ok (.iconst 0, 1) := by decide +kernel
theorem dX4_clearText_2 : decode cX4_clearText 2 = .ok (.putfield 16, 3) := by decide +kernel
theorem dX4_clearText_5 : decode cX4_clearText 5 = .ok (.aload_n 0, 1) := by decide +kernel
theorem dX4_clearText_6 : decode cX4_clearText 6 = .ok (.getfield 153, 3) := by decide +kernel
theorem dX4_clearText_9 : decode cX4_clearText 9 = .ok (.istore_n 1, 1) := by decide +kernel
theorem dX4_clearText_10 : decode cX4_clearText 10 = .ok (.aload_n 0, 1) := by decide +kernel
theorem dX4_clearText_11 : decode cX4_clearText 11 = .ok (.iconst 0, 1) := by decide +kernel
theorem dX4_clearText_12 : decode cX4_clearText 12 = .ok (.putfield 153, 3) := by decide +kernel
theorem dX4_clearText_15 : decode cX4_clearText 15 = .ok (.iload_n 1, 1) := by decide +kernel
theorem dX4_clearText_16 : decode cX4_clearText 16 = .ok (.ireturn, 1) := by decide +kernel
theorem dX4_sign_0 : decode cX4_sign 0 = .ok (.aload_n 0, 1) := by decide +kernel
theorem dX4_sign_1 : decode cX4_sign 1 = .ok (.getfield 156, 3) := by decide +kernel
theorem dX4_sign_4 : decode cX4_sign 4 = .ok (.aload_n 0, 1) := by decide +kernel
theorem dX4_sign_5 : decode cX4_sign 5 = .ok (.getfield 153, 3) := by decide +kernel
theorem dX4_sign_8 : decode cX4_sign 8 = .ok (.if_icmp .ge 15, 3) := by decide +kernel
theorem dX4_sign_11 : decode cX4_sign 11 = .ok (.aload_n 0, 1) := by decide +kernel
theorem dX4_sign_12 : decode cX4_sign 12 = .ok (.getfield 13, 3) := by decide +kernel
theorem dX4_sign_15 : decode cX4_sign 15 = .ok (.aload_n 0, 1) := by decide +kernel
theorem dX4_sign_16 : decode cX4_sign 16 = .ok (.getfield 156, 3) := by decide +kernel
theorem dX4_sign_19 : decode cX4_sign 19 = .ok (.iaload, 1) := by decide +kernel
theorem dX4_sign_20 : decode cX4_sign 20 = .ok (.goto 4, 3) := by decide +kernel
theorem dX4_sign_23 : decode cX4_sign 23 = .ok (.iconst 0, 1) := by decide +kernel
theorem dX4_sign_24 : decode cX4_sign 24 = .ok (.ireturn, 1) := by decide +kernel
theorem dX4_takes_0 : decode cX4_takes 0 = .ok (.aload_n 0, 1) := by decide +kernel
theorem dX4_takes_1 : decode cX4_takes 1 = .ok (.invokevirtual 159, 3) := by decide +kernel
theorem dX4_takes_4 : decode cX4_takes 4 = .ok (.iload_n 1, 1) := by decide +kernel
theorem dX4_takes_5 : decode cX4_takes 5 = .ok (.if_icmp .ne 7, 3) := by decide +kernel
theorem dX4_takes_8 : decode cX4_takes 8 = .ok (.iconst 1, 1) := by decide +kernel
theorem dX4_takes_9 : decode cX4_takes 9 = .ok (.goto 4, 3) := by decide +kernel
theorem dX4_takes_12 : decode cX4_takes 12 = .ok (.iconst 0, 1) := by decide +kernel
theorem dX4_takes_13 : decode cX4_takes 13 = .ok (.istore_n 2, 1) := by decide +kernel
theorem dX4_takes_14 : decode cX4_takes 14 = .ok (.aload_n 0, 1) := by decide +kernel
theorem dX4_takes_15 : decode cX4_takes 15 = .ok (.dup, 1) := by decide +kernel
theorem dX4_takes_16 : decode cX4_takes 16 = .ok (.getfield 156, 3) := by decide +kernel
theorem dX4_takes_19 : decode cX4_takes 19 = .ok (.iload_n 2, 1) := by decide +kernel
theorem dX4_takes_20 : decode cX4_takes 20 = .ok (.ifCond .eq 7, 3) := by decide +kernel
theorem dX4_takes_23 : decode cX4_takes 23 = .ok (.iconst 1, 1) := by decide +kernel
theorem dX4_takes_24 : decode cX4_takes 24 = .ok (.goto 4, 3) := by decide +kernel
theorem dX4_takes_27 : decode cX4_takes 27 = .ok (.iconst 0, 1) := by decide +kernel
theorem dX4_takes_28 : decode cX4_takes 28 = .ok (.iadd, 1) := by decide +kernel
theorem dX4_takes_29 : decode cX4_takes 29 = .ok (.putfield 156, 3) := by decide +kernel
theorem dX4_takes_32 : decode cX4_takes 32 = .ok (.iload_n 2, 1) := by decide +kernel
theorem dX4_takes_33 : decode cX4_takes 33 = .ok (.ireturn, 1) := by decide +kernel
theorem dX4_figure_0 : decode cX4_figure 0 = .ok (.aload_n 0, 1) := by decide +kernel
theorem dX4_figure_1 : decode cX4_figure 1 = .ok (.invokevirtual 159, 3) := by decide +kernel
theorem dX4_figure_4 : decode cX4_figure 4 = .ok (.bipush 48, 2) := by decide +kernel
theorem dX4_figure_6 : decode cX4_figure 6 = .ok (.iload_n 1, 1) := by decide +kernel
theorem dX4_figure_7 : decode cX4_figure 7 = .ok (.iadd, 1) := by decide +kernel
theorem dX4_figure_8 : decode cX4_figure 8 = .ok (.bipush 48, 2) := by decide +kernel
theorem dX4_figure_10 : decode cX4_figure 10 = .ok (.iload_n 2, 1) := by decide +kernel
theorem dX4_figure_11 : decode cX4_figure 11 = .ok (.iadd, 1) := by decide +kernel
theorem dX4_figure_12 : decode cX4_figure 12 = .ok (.invokestatic 20, 3) := by decide +kernel
theorem dX4_figure_15 : decode cX4_figure 15 = .ok (.ifCond .eq 13, 3) := by decide +kernel
theorem dX4_figure_18 : decode cX4_figure 18 = .ok (.aload_n 0, 1) := by decide +kernel
theorem dX4_figure_19 : decode cX4_figure 19 = .ok (.invokevirtual 159, 3) := by decide +kernel
theorem dX4_figure_22 : decode cX4_figure 22 = .ok (.bipush 48, 2) := by decide +kernel
theorem dX4_figure_24 : decode cX4_figure 24 = .ok (.isub, 1) := by decide +kernel
theorem dX4_figure_25 : decode cX4_figure 25 = .ok (.goto 4, 3) := by decide +kernel
theorem dX4_figure_28 : decode cX4_figure 28 = .ok (.iconst (-1), 1) := by decide +kernel
theorem dX4_figure_29 : decode cX4_figure 29 = .ok (.istore_n 3, 1) := by decide +kernel
theorem dX4_figure_30 : decode cX4_figure 30 = .ok (.aload_n 0, 1) := by decide +kernel
theorem dX4_figure_31 : decode cX4_figure 31 = .ok (.dup, 1) := by decide +kernel
theorem dX4_figure_32 : decode cX4_figure 32 = .ok (.getfield 156, 3) := by decide +kernel
theorem dX4_figure_35 : decode cX4_figure 35 = .ok (.iload_n 3, 1) := by decide +kernel
theorem dX4_figure_36 : decode cX4_figure 36 = .ok (.iconst (-1), 1) := by decide +kernel
theorem dX4_figure_37 : decode cX4_figure 37 = .ok (.if_icmp .ne 7, 3) := by decide +kernel
theorem dX4_figure_40 : decode cX4_figure 40 = .ok (.iconst 0, 1) := by decide +kernel
theorem dX4_figure_41 : decode cX4_figure 41 = .ok (.goto 4, 3) := by decide +kernel
theorem dX4_figure_44 : decode cX4_figure 44 = .ok (.iconst 1, 1) := by decide +kernel
theorem dX4_figure_45 : decode cX4_figure 45 = .ok (.iadd, 1) := by decide +kernel
theorem dX4_figure_46 : decode cX4_figure 46 = .ok (.putfield 156, 3) := by decide +kernel
theorem dX4_figure_49 : decode cX4_figure 49 = .ok (.iload_n 3, 1) := by decide +kernel
theorem dX4_figure_50 : decode cX4_figure 50 = .ok (.ireturn, 1) := by decide +kernel
theorem dX4_readsInn_0 : decode cX4_readsInn 0 = .ok (.aload_n 0, 1) := by decide +kernel
theorem dX4_readsInn_1 : decode cX4_readsInn 1 = .ok (.invokevirtual 159, 3) := by decide +kernel
theorem dX4_readsInn_4 : decode cX4_readsInn 4 = .ok (.bipush 48, 2) := by decide +kernel
theorem dX4_readsInn_6 : decode cX4_readsInn 6 = .ok (.isub, 1) := by decide +kernel
theorem dX4_readsInn_7 : decode cX4_readsInn 7 = .ok (.iload_n 1, 1) := by decide +kernel
theorem dX4_readsInn_8 : decode cX4_readsInn 8 = .ok (.if_icmp .eq 14, 3) := by decide +kernel
theorem dX4_readsInn_11 : decode cX4_readsInn 11 = .ok (.aload_n 0, 1) := by decide +kernel
theorem dX4_readsInn_12 : decode cX4_readsInn 12 = .ok (.invokevirtual 159, 3) := by decide +kernel
theorem dX4_readsInn_15 : decode cX4_readsInn 15 = .ok (.bipush 48, 2) := by decide +kernel
theorem dX4_readsInn_17 : decode cX4_readsInn 17 = .ok (.isub, 1) := by decide +kernel
theorem dX4_readsInn_18 : decode cX4_readsInn 18 = .ok (.iload_n 2, 1) := by decide +kernel
theorem dX4_readsInn_19 : decode cX4_readsInn 19 = .ok (.if_icmp .ne 7, 3) := by decide +kernel
theorem dX4_readsInn_22 : decode cX4_readsInn 22 = .ok (.iconst (-1), 1) := by decide +kernel
theorem dX4_readsInn_23 : decode cX4_readsInn 23 = .ok (.goto 10, 3) := by decide +kernel
theorem dX4_readsInn_26 : decode cX4_readsInn 26 = .ok (.aload_n 0, 1) := by decide +kernel
theorem dX4_readsInn_27 : decode cX4_readsInn 27 = .ok (.iconst 0, 1) := by decide +kernel
theorem dX4_readsInn_28 : decode cX4_readsInn 28 = .ok (.bipush 7, 2) := by decide +kernel
theorem dX4_readsInn_30 : decode cX4_readsInn 30 = .ok (.invokevirtual 163, 3) := by decide +kernel
theorem dX4_readsInn_33 : decode cX4_readsInn 33 = .ok (.ireturn, 1) := by decide +kernel
theorem dX4_readsRoad_0 : decode cX4_readsRoad 0 = .ok (.aload_n 0, 1) := by decide +kernel
theorem dX4_readsRoad_1 : decode cX4_readsRoad 1 = .ok (.aload_n 0, 1) := by decide +kernel
theorem dX4_readsRoad_2 : decode cX4_readsRoad 2 = .ok (.iconst (-1), 1) := by decide +kernel
theorem dX4_readsRoad_3 : decode cX4_readsRoad 3 = .ok (.iconst (-1), 1) := by decide +kernel
theorem dX4_readsRoad_4 : decode cX4_readsRoad 4 = .ok (.invokevirtual 166, 3) := by decide +kernel
theorem dX4_readsRoad_7 : decode cX4_readsRoad 7 = .ok (.putfield 169, 3) := by decide +kernel
theorem dX4_readsRoad_10 : decode cX4_readsRoad 10 = .ok (.aload_n 0, 1) := by decide +kernel
theorem dX4_readsRoad_11 : decode cX4_readsRoad 11 = .ok (.aload_n 0, 1) := by decide +kernel
theorem dX4_readsRoad_12 : decode cX4_readsRoad 12 = .ok (.getfield 169, 3) := by decide +kernel
theorem dX4_readsRoad_15 : decode cX4_readsRoad 15 = .ok (.iconst (-1), 1) := by decide +kernel
theorem dX4_readsRoad_16 : decode cX4_readsRoad 16 = .ok (.if_icmp .ne 7, 3) := by decide +kernel
theorem dX4_readsRoad_19 : decode cX4_readsRoad 19 = .ok (.iconst (-1), 1) := by decide +kernel
theorem dX4_readsRoad_20 : decode cX4_readsRoad 20 = .ok (.goto 12, 3) := by decide +kernel
theorem dX4_readsRoad_23 : decode cX4_readsRoad 23 = .ok (.aload_n 0, 1) := by decide +kernel
theorem dX4_readsRoad_24 : decode cX4_readsRoad 24 = .ok (.aload_n 0, 1) := by decide +kernel
theorem dX4_readsRoad_25 : decode cX4_readsRoad 25 = .ok (.getfield 169, 3) := by decide +kernel
theorem dX4_readsRoad_28 : decode cX4_readsRoad 28 = .ok (.iconst (-1), 1) := by decide +kernel
theorem dX4_readsRoad_29 : decode cX4_readsRoad 29 = .ok (.invokevirtual 166, 3) := by decide +kernel
theorem dX4_readsRoad_32 : decode cX4_readsRoad 32 = .ok (.putfield 172, 3) := by decide +kernel
theorem dX4_readsRoad_35 : decode cX4_readsRoad 35 = .ok (.aload_n 0, 1) := by decide +kernel
theorem dX4_readsRoad_36 : decode cX4_readsRoad 36 = .ok (.aload_n 0, 1) := by decide +kernel
theorem dX4_readsRoad_37 : decode cX4_readsRoad 37 = .ok (.getfield 172, 3) := by decide +kernel
theorem dX4_readsRoad_40 : decode cX4_readsRoad 40 = .ok (.iconst (-1), 1) := by decide +kernel
theorem dX4_readsRoad_41 : decode cX4_readsRoad 41 = .ok (.if_icmp .ne 7, 3) := by decide +kernel
theorem dX4_readsRoad_44 : decode cX4_readsRoad 44 = .ok (.iconst (-1), 1) := by decide +kernel
theorem dX4_readsRoad_45 : decode cX4_readsRoad 45 = .ok (.goto 15, 3) := by decide +kernel
theorem dX4_readsRoad_48 : decode cX4_readsRoad 48 = .ok (.aload_n 0, 1) := by decide +kernel
theorem dX4_readsRoad_49 : decode cX4_readsRoad 49 = .ok (.aload_n 0, 1) := by decide +kernel
theorem dX4_readsRoad_50 : decode cX4_readsRoad 50 = .ok (.getfield 169, 3) := by decide +kernel
theorem dX4_readsRoad_53 : decode cX4_readsRoad 53 = .ok (.aload_n 0, 1) := by decide +kernel
theorem dX4_readsRoad_54 : decode cX4_readsRoad 54 = .ok (.getfield 172, 3) := by decide +kernel
theorem dX4_readsRoad_57 : decode cX4_readsRoad 57 = .ok (.invokevirtual 166, 3) := by decide +kernel
theorem dX4_readsRoad_60 : decode cX4_readsRoad 60 = .ok (.putfield 175, 3) := by decide +kernel
theorem dX4_readsRoad_63 : decode cX4_readsRoad 63 = .ok (.aload_n 0, 1) := by decide +kernel
theorem dX4_readsRoad_64 : decode cX4_readsRoad 64 = .ok (.aload_n 0, 1) := by decide +kernel
theorem dX4_readsRoad_65 : decode cX4_readsRoad 65 = .ok (.getfield 175, 3) := by decide +kernel
theorem dX4_readsRoad_68 : decode cX4_readsRoad 68 = .ok (.iconst (-1), 1) := by decide +kernel
theorem dX4_readsRoad_69 : decode cX4_readsRoad 69 = .ok (.if_icmp .ne 7, 3) := by decide +kernel
theorem dX4_readsRoad_72 : decode cX4_readsRoad 72 = .ok (.iconst (-1), 1) := by decide +kernel
theorem dX4_readsRoad_73 : decode cX4_readsRoad 73 = .ok (.goto 9, 3) := by decide +kernel
theorem dX4_readsRoad_76 : decode cX4_readsRoad 76 = .ok (.aload_n 0, 1) := by decide +kernel
theorem dX4_readsRoad_77 : decode cX4_readsRoad 77 = .ok (.iconst 0, 1) := by decide +kernel
theorem dX4_readsRoad_78 : decode cX4_readsRoad 78 = .ok (.iconst 3, 1) := by decide +kernel
theorem dX4_readsRoad_79 : decode cX4_readsRoad 79 = .ok (.invokevirtual 163, 3) := by decide +kernel
theorem dX4_readsRoad_82 : decode cX4_readsRoad 82 = .ok (.putfield 178, 3) := by decide +kernel
theorem dX4_readsRoad_85 : decode cX4_readsRoad 85 = .ok (.aload_n 0, 1) := by decide +kernel
theorem dX4_readsRoad_86 : decode cX4_readsRoad 86 = .ok (.getfield 178, 3) := by decide +kernel
theorem dX4_readsRoad_89 : decode cX4_readsRoad 89 = .ok (.iconst (-1), 1) := by decide +kernel
theorem dX4_readsRoad_90 : decode cX4_readsRoad 90 = .ok (.if_icmp .eq 7, 3) := by decide +kernel
theorem dX4_readsRoad_93 : decode cX4_readsRoad 93 = .ok (.iconst 1, 1) := by decide +kernel
theorem dX4_readsRoad_94 : decode cX4_readsRoad 94 = .ok (.goto 4, 3) := by decide +kernel
theorem dX4_readsRoad_97 : decode cX4_readsRoad 97 = .ok (.iconst 0, 1) := by decide +kernel
theorem dX4_readsRoad_98 : decode cX4_readsRoad 98 = .ok (.ireturn, 1) := by decide +kernel
theorem dX4_readsBody_0 : decode cX4_readsBody 0 = .ok (.aload_n 0, 1) := by decide +kernel
theorem dX4_readsBody_1 : decode cX4_readsBody 1 = .ok (.aload_n 0, 1) := by decide +kernel
theorem dX4_readsBody_2 : decode cX4_readsBody 2 = .ok (.bipush 61, 2) := by decide +kernel
theorem dX4_readsBody_4 : decode cX4_readsBody 4 = .ok (.invokevirtual 181, 3) := by decide +kernel
theorem dX4_readsBody_7 : decode cX4_readsBody 7 = .ok (.ifCond .eq 13, 3) := by decide +kernel
theorem dX4_readsBody_10 : decode cX4_readsBody 10 = .ok (.aload_n 0, 1) := by decide +kernel
theorem dX4_readsBody_11 : decode cX4_readsBody 11 = .ok (.iconst 0, 1) := by decide +kernel
theorem dX4_readsBody_12 : decode cX4_readsBody 12 = .ok (.bipush 9, 2) := by decide +kernel
theorem dX4_readsBody_14 : decode cX4_readsBody 14 = .ok (.invokevirtual 163, 3) := by decide +kernel
theorem dX4_readsBody_17 : decode cX4_readsBody 17 = .ok (.goto 4, 3) := by decide +kernel
theorem dX4_readsBody_20 : decode cX4_readsBody 20 = .ok (.iconst (-1), 1) := by decide +kernel
theorem dX4_readsBody_21 : decode cX4_readsBody 21 = .ok (.putfield 172, 3) := by decide +kernel
theorem dX4_readsBody_24 : decode cX4_readsBody 24 = .ok (.aload_n 0, 1) := by decide +kernel
theorem dX4_readsBody_25 : decode cX4_readsBody 25 = .ok (.getfield 172, 3) := by decide +kernel
theorem dX4_readsBody_28 : decode cX4_readsBody 28 = .ok (.ifCond .le 49, 3) := by decide +kernel
theorem dX4_readsBody_31 : decode cX4_readsBody 31 = .ok (.aload_n 0, 1) := by decide +kernel
theorem dX4_readsBody_32 : decode cX4_readsBody 32 = .ok (.getfield 172, 3) := by decide +kernel
theorem dX4_readsBody_35 : decode cX4_readsBody 35 = .ok (.sipush 1000, 3) := by decide +kernel
theorem dX4_readsBody_38 : decode cX4_readsBody 38 = .ok (.if_icmp .ge 39, 3) := by decide +kernel
theorem dX4_readsBody_41 : decode cX4_readsBody 41 = .ok (.aload_n 0, 1) := by decide +kernel
theorem dX4_readsBody_42 : decode cX4_readsBody 42 = .ok (.invokevirtual 159, 3) := by decide +kernel
theorem dX4_readsBody_45 : decode cX4_readsBody 45 = .ok (.bipush 48, 2) := by decide +kernel
theorem dX4_readsBody_47 : decode cX4_readsBody 47 = .ok (.bipush 57, 2) := by decide +kernel
theorem dX4_readsBody_49 : decode cX4_readsBody 49 = .ok (.invokestatic 20, 3) := by decide +kernel
theorem dX4_readsBody_52 : decode cX4_readsBody 52 = .ok (.ifCond .eq 25, 3) := by decide +kernel
theorem dX4_readsBody_55 : decode cX4_readsBody 55 = .ok (.aload_n 0, 1) := by decide +kernel
theorem dX4_readsBody_56 : decode cX4_readsBody 56 = .ok (.bipush 10, 2) := by decide +kernel
theorem dX4_readsBody_58 : decode cX4_readsBody 58 = .ok (.aload_n 0, 1) := by decide +kernel
theorem dX4_readsBody_59 : decode cX4_readsBody 59 = .ok (.getfield 172, 3) := by decide +kernel
theorem dX4_readsBody_62 : decode cX4_readsBody 62 = .ok (.imul, 1) := by decide +kernel
theorem dX4_readsBody_63 : decode cX4_readsBody 63 = .ok (.aload_n 0, 1) := by decide +kernel
theorem dX4_readsBody_64 : decode cX4_readsBody 64 = .ok (.iconst 0, 1) := by decide +kernel
theorem dX4_readsBody_65 : decode cX4_readsBody 65 = .ok (.bipush 9, 2) := by decide +kernel
theorem dX4_readsBody_67 : decode cX4_readsBody 67 = .ok (.invokevirtual 163, 3) := by decide +kernel
theorem dX4_readsBody_70 : decode cX4_readsBody 70 = .ok (.iadd, 1) := by decide +kernel
theorem dX4_readsBody_71 : decode cX4_readsBody 71 = .ok (.putfield 172, 3) := by decide +kernel
theorem dX4_readsBody_74 : decode cX4_readsBody 74 = .ok (.goto (-50), 3) := by decide +kernel
theorem dX4_readsBody_77 : decode cX4_readsBody 77 = .ok (.aload_n 0, 1) := by decide +kernel
theorem dX4_readsBody_78 : decode cX4_readsBody 78 = .ok (.getfield 172, 3) := by decide +kernel
theorem dX4_readsBody_81 : decode cX4_readsBody 81 = .ok (.iconst (-1), 1) := by decide +kernel
theorem dX4_readsBody_82 : decode cX4_readsBody 82 = .ok (.if_icmp .eq 7, 3) := by decide +kernel
theorem dX4_readsBody_85 : decode cX4_readsBody 85 = .ok (.iconst 1, 1) := by decide +kernel
theorem dX4_readsBody_86 : decode cX4_readsBody 86 = .ok (.goto 4, 3) := by decide +kernel
theorem dX4_readsBody_89 : decode cX4_readsBody 89 = .ok (.iconst 0, 1) := by decide +kernel
theorem dX4_readsBody_90 : decode cX4_readsBody 90 = .ok (.ireturn, 1) := by decide +kernel
theorem dX4_readsOrder_0 : decode cX4_readsOrder 0 = .ok (.aload_n 0, 1) := by decide +kernel
theorem dX4_readsOrder_1 : decode cX4_readsOrder 1 = .ok (.aload_n 0, 1) := by decide +kernel
theorem dX4_readsOrder_2 : decode cX4_readsOrder 2 = .ok (.invokevirtual 159, 3) := by decide +kernel
theorem dX4_readsOrder_5 : decode cX4_readsOrder 5 = .ok (.putfield 184, 3) := by decide +kernel
theorem dX4_readsOrder_8 : decode cX4_readsOrder 8 = .ok (.aload_n 0, 1) := by decide +kernel
theorem dX4_readsOrder_9 : decode cX4_readsOrder 9 = .ok (.bipush 114, 2) := by decide +kernel
theorem dX4_readsOrder_11 : decode cX4_readsOrder 11 = .ok (.invokevirtual 181, 3) := by decide +kernel
theorem dX4_readsOrder_14 : decode cX4_readsOrder 14 = .ok (.ifCond .eq 8, 3) := by decide +kernel
theorem dX4_readsOrder_17 : decode cX4_readsOrder 17 = .ok (.aload_n 0, 1) := by decide +kernel
theorem dX4_readsOrder_18 : decode cX4_readsOrder 18 = .ok (.invokevirtual 187, 3) := by decide +kernel
theorem dX4_readsOrder_21 : decode cX4_readsOrder 21 = .ok (.ireturn, 1) := by decide +kernel
theorem dX4_readsOrder_22 : decode cX4_readsOrder 22 = .ok (.aload_n 0, 1) := by decide +kernel
theorem dX4_readsOrder_23 : decode cX4_readsOrder 23 = .ok (.bipush 115, 2) := by decide +kernel
theorem dX4_readsOrder_25 : decode cX4_readsOrder 25 = .ok (.invokevirtual 181, 3) := by decide +kernel
theorem dX4_readsOrder_28 : decode cX4_readsOrder 28 = .ok (.ifCond .ne 12, 3) := by decide +kernel
theorem dX4_readsOrder_31 : decode cX4_readsOrder 31 = .ok (.aload_n 0, 1) := by decide +kernel
theorem dX4_readsOrder_32 : decode cX4_readsOrder 32 = .ok (.bipush 97, 2) := by decide +kernel
theorem dX4_readsOrder_34 : decode cX4_readsOrder 34 = .ok (.invokevirtual 181, 3) := by decide +kernel
theorem dX4_readsOrder_37 : decode cX4_readsOrder 37 = .ok (.ifCond .eq 47, 3) := by decide +kernel
theorem dX4_readsOrder_40 : decode cX4_readsOrder 40 = .ok (.aload_n 0, 1) := by decide +kernel
theorem dX4_readsOrder_41 : decode cX4_readsOrder 41 = .ok (.aload_n 0, 1) := by decide +kernel
theorem dX4_readsOrder_42 : decode cX4_readsOrder 42 = .ok (.iconst 0, 1) := by decide +kernel
theorem dX4_readsOrder_43 : decode cX4_readsOrder 43 = .ok (.aload_n 0, 1) := by decide +kernel
theorem dX4_readsOrder_44 : decode cX4_readsOrder 44 = .ok (.getfield 184, 3) := by decide +kernel
theorem dX4_readsOrder_47 : decode cX4_readsOrder 47 = .ok (.bipush 115, 2) := by decide +kernel
theorem dX4_readsOrder_49 : decode cX4_readsOrder 49 = .ok (.if_icmp .ne 7, 3) := by decide +kernel
theorem dX4_readsOrder_52 : decode cX4_readsOrder 52 = .ok (.iconst 5, 1) := by decide +kernel
theorem dX4_readsOrder_53 : decode cX4_readsOrder 53 = .ok (.goto 4, 3) := by decide +kernel
theorem dX4_readsOrder_56 : decode cX4_readsOrder 56 = .ok (.iconst 3, 1) := by decide +kernel
theorem dX4_readsOrder_57 : decode cX4_readsOrder 57 = .ok (.invokevirtual 163, 3) := by decide +kernel
theorem dX4_readsOrder_60 : decode cX4_readsOrder 60 = .ok (.putfield 169, 3) := by decide +kernel
theorem dX4_readsOrder_63 : decode cX4_readsOrder 63 = .ok (.aload_n 0, 1) := by decide +kernel
theorem dX4_readsOrder_64 : decode cX4_readsOrder 64 = .ok (.getfield 169, 3) := by decide +kernel
theorem dX4_readsOrder_67 : decode cX4_readsOrder 67 = .ok (.iconst (-1), 1) := by decide +kernel
theorem dX4_readsOrder_68 : decode cX4_readsOrder 68 = .ok (.if_icmp .eq 14, 3) := by decide +kernel
theorem dX4_readsOrder_71 : decode cX4_readsOrder 71 = .ok (.aload_n 0, 1) := by decide +kernel
theorem dX4_readsOrder_72 : decode cX4_readsOrder 72 = .ok (.invokevirtual 190, 3) := by decide +kernel
theorem dX4_readsOrder_75 : decode cX4_readsOrder 75 = .ok (.ifCond .eq 7, 3) := by decide +kernel
theorem dX4_readsOrder_78 : decode cX4_readsOrder 78 = .ok (.iconst 1, 1) := by decide +kernel
theorem dX4_readsOrder_79 : decode cX4_readsOrder 79 = .ok (.goto 4, 3) := by decide +kernel
theorem dX4_readsOrder_82 : decode cX4_readsOrder 82 = .ok (.iconst 0, 1) := by decide +kernel
theorem dX4_readsOrder_83 : decode cX4_readsOrder 83 = .ok (.ireturn, 1) := by decide +kernel
theorem dX4_readsOrder_84 : decode cX4_readsOrder 84 = .ok (.aload_n 0, 1) := by decide +kernel
theorem dX4_readsOrder_85 : decode cX4_readsOrder 85 = .ok (.bipush 116, 2) := by decide +kernel
theorem dX4_readsOrder_87 : decode cX4_readsOrder 87 = .ok (.invokevirtual 181, 3) := by decide +kernel
theorem dX4_readsOrder_90 : decode cX4_readsOrder 90 = .ok (.ifCond .eq 28, 3) := by decide +kernel
theorem dX4_readsOrder_93 : decode cX4_readsOrder 93 = .ok (.aload_n 0, 1) := by decide +kernel
theorem dX4_readsOrder_94 : decode cX4_readsOrder 94 = .ok (.aload_n 0, 1) := by decide +kernel
theorem dX4_readsOrder_95 : decode cX4_readsOrder 95 = .ok (.iconst 1, 1) := by decide +kernel
theorem dX4_readsOrder_96 : decode cX4_readsOrder 96 = .ok (.bipush 9, 2) := by decide +kernel
theorem dX4_readsOrder_98 : decode cX4_readsOrder 98 = .ok (.invokevirtual 163, 3) := by decide +kernel
theorem dX4_readsOrder_101 : decode cX4_readsOrder 101 = .ok (.putfield 169, 3) := by decide +kernel
theorem dX4_readsOrder_104 : decode cX4_readsOrder 104 = .ok (.aload_n 0, 1) := by decide +kernel
theorem dX4_readsOrder_105 : decode cX4_readsOrder 105 = .ok (.getfield 169, 3) := by decide +kernel
theorem dX4_readsOrder_108 : decode cX4_readsOrder 108 = .ok (.iconst (-1), 1) := by decide +kernel
theorem dX4_readsOrder_109 : decode cX4_readsOrder 109 = .ok (.if_icmp .eq 7, 3) := by decide +kernel
theorem dX4_readsOrder_112 : decode cX4_readsOrder 112 = .ok (.iconst 1, 1) := by decide +kernel
theorem dX4_readsOrder_113 : decode cX4_readsOrder 113 = .ok (.goto 4, 3) := by decide +kernel
theorem dX4_readsOrder_116 : decode cX4_readsOrder 116 = .ok (.iconst 0, 1) := by decide +kernel
theorem dX4_readsOrder_117 : decode cX4_readsOrder 117 = .ok (.ireturn, 1) := by decide +kernel
theorem dX4_readsOrder_118 : decode cX4_readsOrder 118 = .ok (.aload_n 0, 1) := by decide +kernel
theorem dX4_readsOrder_119 : decode cX4_readsOrder 119 = .ok (.aload_n 0, 1) := by decide +kernel
theorem dX4_readsOrder_120 : decode cX4_readsOrder 120 = .ok (.bipush 99, 2) := by decide +kernel
theorem dX4_readsOrder_122 : decode cX4_readsOrder 122 = .ok (.invokevirtual 181, 3) := by decide +kernel
theorem dX4_readsOrder_125 : decode cX4_readsOrder 125 = .ok (.ifCond .ne 12, 3) := by decide +kernel
theorem dX4_readsOrder_128 : decode cX4_readsOrder 128 = .ok (.aload_n 0, 1) := by decide +kernel
theorem dX4_readsOrder_129 : decode cX4_readsOrder 129 = .ok (.bipush 111, 2) := by decide +kernel
theorem dX4_readsOrder_131 : decode cX4_readsOrder 131 = .ok (.invokevirtual 181, 3) := by decide +kernel
theorem dX4_readsOrder_134 : decode cX4_readsOrder 134 = .ok (.ifCond .eq 13, 3) := by decide +kernel
theorem dX4_readsOrder_137 : decode cX4_readsOrder 137 = .ok (.aload_n 0, 1) := by decide +kernel
theorem dX4_readsOrder_138 : decode cX4_readsOrder 138 = .ok (.iconst 0, 1) := by decide +kernel
theorem dX4_readsOrder_139 : decode cX4_readsOrder 139 = .ok (.bipush 7, 2) := by decide +kernel
theorem dX4_readsOrder_141 : decode cX4_readsOrder 141 = .ok (.invokevirtual 163, 3) := by decide +kernel
theorem dX4_readsOrder_144 : decode cX4_readsOrder 144 = .ok (.goto 4, 3) := by decide +kernel
theorem dX4_readsOrder_147 : decode cX4_readsOrder 147 = .ok (.iconst (-1), 1) := by decide +kernel
theorem dX4_readsOrder_148 : decode cX4_readsOrder 148 = .ok (.putfield 169, 3) := by decide +kernel
theorem dX4_readsOrder_151 : decode cX4_readsOrder 151 = .ok (.aload_n 0, 1) := by decide +kernel
theorem dX4_readsOrder_152 : decode cX4_readsOrder 152 = .ok (.getfield 169, 3) := by decide +kernel
theorem dX4_readsOrder_155 : decode cX4_readsOrder 155 = .ok (.iconst (-1), 1) := by decide +kernel
theorem dX4_readsOrder_156 : decode cX4_readsOrder 156 = .ok (.if_icmp .eq 7, 3) := by decide +kernel
theorem dX4_readsOrder_159 : decode cX4_readsOrder 159 = .ok (.iconst 1, 1) := by decide +kernel
theorem dX4_readsOrder_160 : decode cX4_readsOrder 160 = .ok (.goto 4, 3) := by decide +kernel
theorem dX4_readsOrder_163 : decode cX4_readsOrder 163 = .ok (.iconst 0, 1) := by decide +kernel
theorem dX4_readsOrder_164 : decode cX4_readsOrder 164 = .ok (.ireturn, 1) := by decide +kernel
theorem dX4_areOrders_0 : decode cX4_areOrders 0 = .ok (.aload_n 0, 1) := by decide +kernel
theorem dX4_areOrders_1 : decode cX4_areOrders 1 = .ok (.iconst 0, 1) := by decide +kernel
theorem dX4_areOrders_2 : decode cX4_areOrders 2 = .ok (.putfield 156, 3) := by decide +kernel
theorem dX4_areOrders_5 : decode cX4_areOrders 5 = .ok (.aload_n 0, 1) := by decide +kernel
theorem dX4_areOrders_6 : decode cX4_areOrders 6 = .ok (.invokevirtual 193, 3) := by decide +kernel
theorem dX4_areOrders_9 : decode cX4_areOrders 9 = .ok (.ifCond .eq 27, 3) := by decide +kernel
theorem dX4_areOrders_12 : decode cX4_areOrders 12 = .ok (.aload_n 0, 1) := by decide +kernel
theorem dX4_areOrders_13 : decode cX4_areOrders 13 = .ok (.getfield 156, 3) := by decide +kernel
theorem dX4_areOrders_16 : decode cX4_areOrders 16 = .ok (.aload_n 0, 1) := by decide +kernel
theorem dX4_areOrders_17 : decode cX4_areOrders 17 = .ok (.getfield 153, 3) := by decide +kernel
theorem dX4_areOrders_20 : decode cX4_areOrders 20 = .ok (.if_icmp .ne 5, 3) := by decide +kernel
theorem dX4_areOrders_23 : decode cX4_areOrders 23 = .ok (.iconst 1, 1) := by decide +kernel
theorem dX4_areOrders_24 : decode cX4_areOrders 24 = .ok (.ireturn, 1) := by decide +kernel
theorem dX4_areOrders_25 : decode cX4_areOrders 25 = .ok (.aload_n 0, 1) := by decide +kernel
theorem dX4_areOrders_26 : decode cX4_areOrders 26 = .ok (.bipush 59, 2) := by decide +kernel
theorem dX4_areOrders_28 : decode cX4_areOrders 28 = .ok (.invokevirtual 181, 3) := by decide +kernel
theorem dX4_areOrders_31 : decode cX4_areOrders 31 = .ok (.ifCond .ne (-26), 3) := by decide +kernel
theorem dX4_areOrders_34 : decode cX4_areOrders 34 = .ok (.iconst 0, 1) := by decide +kernel
theorem dX4_areOrders_35 : decode cX4_areOrders 35 = .ok (.ireturn, 1) := by decide +kernel
theorem dX4_areOrders_36 : decode cX4_areOrders 36 = .ok (.iconst 0, 1) := by decide +kernel
theorem dX4_areOrders_37 : decode cX4_areOrders 37 = .ok (.ireturn, 1) := by decide +kernel
theorem dX4_firstError_0 : decode cX4_firstError 0 = .ok (.aload_n 0, 1) := by decide +kernel
theorem dX4_firstError_1 : decode cX4_firstError 1 = .ok (.iconst 0, 1) := by decide +kernel
theorem dX4_firstError_2 : decode cX4_firstError 2 = .ok (.putfield 16, 3) := by decide +kernel
theorem dX4_firstError_5 : decode cX4_firstError 5 = .ok (.aload_n 0, 1) := by decide +kernel
theorem dX4_firstError_6 : decode cX4_firstError 6 = .ok (.invokevirtual 196, 3) := by decide +kernel
theorem dX4_firstError_9 : decode cX4_firstError 9 = .ok (.pop, 1) := by decide +kernel
theorem dX4_firstError_10 : decode cX4_firstError 10 = .ok (.aload_n 0, 1) := by decide +kernel
theorem dX4_firstError_11 : decode cX4_firstError 11 = .ok (.getfield 156, 3) := by decide +kernel
theorem dX4_firstError_14 : decode cX4_firstError 14 = .ok (.ireturn, 1) := by decide +kernel
theorem dX4_isDone_0 : decode cX4_isDone 0 = .ok (.aload_n 0, 1) := by decide +kernel
theorem dX4_isDone_1 : decode cX4_isDone 1 = .ok (.getfield 184, 3) := by decide +kernel
theorem dX4_isDone_4 : decode cX4_isDone 4 = .ok (.lookupswitch 180 #[(97, 131), (114, 44), (115, 92), (116, 163)], 44) := by decide +kernel
theorem dX4_isDone_48 : decode cX4_isDone 48 = .ok (.aload_n 0, 1) := by decide +kernel
theorem dX4_isDone_49 : decode cX4_isDone 49 = .ok (.aload_n 0, 1) := by decide +kernel
theorem dX4_isDone_50 : decode cX4_isDone 50 = .ok (.getfield 169, 3) := by decide +kernel
theorem dX4_isDone_53 : decode cX4_isDone 53 = .ok (.aload_n 0, 1) := by decide +kernel
theorem dX4_isDone_54 : decode cX4_isDone 54 = .ok (.getfield 172, 3) := by decide +kernel
theorem dX4_isDone_57 : decode cX4_isDone 57 = .ok (.aload_n 0, 1) := by decide +kernel
theorem dX4_isDone_58 : decode cX4_isDone 58 = .ok (.getfield 175, 3) := by decide +kernel
theorem dX4_isDone_61 : decode cX4_isDone 61 = .ok (.invokevirtual 98, 3) := by decide +kernel
theorem dX4_isDone_64 : decode cX4_isDone 64 = .ok (.ifCond .eq 30, 3) := by decide +kernel
theorem dX4_isDone_67 : decode cX4_isDone 67 = .ok (.aload_n 0, 1) := by decide +kernel
theorem dX4_isDone_68 : decode cX4_isDone 68 = .ok (.aload_n 0, 1) := by decide +kernel
theorem dX4_isDone_69 : decode cX4_isDone 69 = .ok (.getfield 169, 3) := by decide +kernel
theorem dX4_isDone_72 : decode cX4_isDone 72 = .ok (.aload_n 0, 1) := by decide +kernel
theorem dX4_isDone_73 : decode cX4_isDone 73 = .ok (.getfield 172, 3) := by decide +kernel
theorem dX4_isDone_76 : decode cX4_isDone 76 = .ok (.aload_n 0, 1) := by decide +kernel
theorem dX4_isDone_77 : decode cX4_isDone 77 = .ok (.getfield 175, 3) := by decide +kernel
theorem dX4_isDone_80 : decode cX4_isDone 80 = .ok (.aload_n 0, 1) := by decide +kernel
theorem dX4_isDone_81 : decode cX4_isDone 81 = .ok (.getfield 178, 3) := by decide +kernel
theorem dX4_isDone_84 : decode cX4_isDone 84 = .ok (.invokevirtual 101, 3) := by decide +kernel
theorem dX4_isDone_87 : decode cX4_isDone 87 = .ok (.ifCond .lt 7, 3) := by decide +kernel
theorem dX4_isDone_90 : decode cX4_isDone 90 = .ok (.iconst 1, 1) := by decide +kernel
theorem dX4_isDone_91 : decode cX4_isDone 91 = .ok (.goto 4, 3) := by decide +kernel
theorem dX4_isDone_94 : decode cX4_isDone 94 = .ok (.iconst 0, 1) := by decide +kernel
theorem dX4_isDone_95 : decode cX4_isDone 95 = .ok (.ireturn, 1) := by decide +kernel
theorem dX4_isDone_96 : decode cX4_isDone 96 = .ok (.aload_n 0, 1) := by decide +kernel
theorem dX4_isDone_97 : decode cX4_isDone 97 = .ok (.aload_n 0, 1) := by decide +kernel
theorem dX4_isDone_98 : decode cX4_isDone 98 = .ok (.getfield 169, 3) := by decide +kernel
theorem dX4_isDone_101 : decode cX4_isDone 101 = .ok (.invokevirtual 110, 3) := by decide +kernel
theorem dX4_isDone_104 : decode cX4_isDone 104 = .ok (.ifCond .eq 29, 3) := by decide +kernel
theorem dX4_isDone_107 : decode cX4_isDone 107 = .ok (.aload_n 0, 1) := by decide +kernel
theorem dX4_isDone_108 : decode cX4_isDone 108 = .ok (.invokevirtual 69, 3) := by decide +kernel
theorem dX4_isDone_111 : decode cX4_isDone 111 = .ok (.ifCond .eq 22, 3) := by decide +kernel
theorem dX4_isDone_114 : decode cX4_isDone 114 = .ok (.aload_n 0, 1) := by decide +kernel
theorem dX4_isDone_115 : decode cX4_isDone 115 = .ok (.aload_n 0, 1) := by decide +kernel
theorem dX4_isDone_116 : decode cX4_isDone 116 = .ok (.getfield 169, 3) := by decide +kernel
theorem dX4_isDone_119 : decode cX4_isDone 119 = .ok (.aload_n 0, 1) := by decide +kernel
theorem dX4_isDone_120 : decode cX4_isDone 120 = .ok (.getfield 172, 3) := by decide +kernel
theorem dX4_isDone_123 : decode cX4_isDone 123 = .ok (.invokevirtual 126, 3) := by decide +kernel
theorem dX4_isDone_126 : decode cX4_isDone 126 = .ok (.ifCond .lt 7, 3) := by decide +kernel
theorem dX4_isDone_129 : decode cX4_isDone 129 = .ok (.iconst 1, 1) := by decide +kernel
theorem dX4_isDone_130 : decode cX4_isDone 130 = .ok (.goto 4, 3) := by decide +kernel
theorem dX4_isDone_133 : decode cX4_isDone 133 = .ok (.iconst 0, 1) := by decide +kernel
theorem dX4_isDone_134 : decode cX4_isDone 134 = .ok (.ireturn, 1) := by decide +kernel
theorem dX4_isDone_135 : decode cX4_isDone 135 = .ok (.aload_n 0, 1) := by decide +kernel
theorem dX4_isDone_136 : decode cX4_isDone 136 = .ok (.aload_n 0, 1) := by decide +kernel
theorem dX4_isDone_137 : decode cX4_isDone 137 = .ok (.getfield 169, 3) := by decide +kernel
theorem dX4_isDone_140 : decode cX4_isDone 140 = .ok (.invokevirtual 129, 3) := by decide +kernel
theorem dX4_isDone_143 : decode cX4_isDone 143 = .ok (.ifCond .eq 22, 3) := by decide +kernel
theorem dX4_isDone_146 : decode cX4_isDone 146 = .ok (.aload_n 0, 1) := by decide +kernel
theorem dX4_isDone_147 : decode cX4_isDone 147 = .ok (.aload_n 0, 1) := by decide +kernel
theorem dX4_isDone_148 : decode cX4_isDone 148 = .ok (.getfield 169, 3) := by decide +kernel
theorem dX4_isDone_151 : decode cX4_isDone 151 = .ok (.aload_n 0, 1) := by decide +kernel
theorem dX4_isDone_152 : decode cX4_isDone 152 = .ok (.getfield 172, 3) := by decide +kernel
theorem dX4_isDone_155 : decode cX4_isDone 155 = .ok (.invokevirtual 132, 3) := by decide +kernel
theorem dX4_isDone_158 : decode cX4_isDone 158 = .ok (.ifCond .lt 7, 3) := by decide +kernel
theorem dX4_isDone_161 : decode cX4_isDone 161 = .ok (.iconst 1, 1) := by decide +kernel
theorem dX4_isDone_162 : decode cX4_isDone 162 = .ok (.goto 4, 3) := by decide +kernel
theorem dX4_isDone_165 : decode cX4_isDone 165 = .ok (.iconst 0, 1) := by decide +kernel
theorem dX4_isDone_166 : decode cX4_isDone 166 = .ok (.ireturn, 1) := by decide +kernel
theorem dX4_isDone_167 : decode cX4_isDone 167 = .ok (.aload_n 0, 1) := by decide +kernel
theorem dX4_isDone_168 : decode cX4_isDone 168 = .ok (.aload_n 0, 1) := by decide +kernel
theorem dX4_isDone_169 : decode cX4_isDone 169 = .ok (.getfield 169, 3) := by decide +kernel
theorem dX4_isDone_172 : decode cX4_isDone 172 = .ok (.invokevirtual 135, 3) := by decide +kernel
theorem dX4_isDone_175 : decode cX4_isDone 175 = .ok (.ifCond .lt 7, 3) := by decide +kernel
theorem dX4_isDone_178 : decode cX4_isDone 178 = .ok (.iconst 1, 1) := by decide +kernel
theorem dX4_isDone_179 : decode cX4_isDone 179 = .ok (.goto 4, 3) := by decide +kernel
theorem dX4_isDone_182 : decode cX4_isDone 182 = .ok (.iconst 0, 1) := by decide +kernel
theorem dX4_isDone_183 : decode cX4_isDone 183 = .ok (.ireturn, 1) := by decide +kernel
theorem dX4_isDone_184 : decode cX4_isDone 184 = .ok (.aload_n 0, 1) := by decide +kernel
theorem dX4_isDone_185 : decode cX4_isDone 185 = .ok (.getfield 7, 3) := by decide +kernel
theorem dX4_isDone_188 : decode cX4_isDone 188 = .ok (.bipush 8, 2) := by decide +kernel
theorem dX4_isDone_190 : decode cX4_isDone 190 = .ok (.aload_n 0, 1) := by decide +kernel
theorem dX4_isDone_191 : decode cX4_isDone 191 = .ok (.getfield 169, 3) := by decide +kernel
theorem dX4_isDone_194 : decode cX4_isDone 194 = .ok (.iadd, 1) := by decide +kernel
theorem dX4_isDone_195 : decode cX4_isDone 195 = .ok (.aload_n 0, 1) := by decide +kernel
theorem dX4_isDone_196 : decode cX4_isDone 196 = .ok (.getfield 184, 3) := by decide +kernel
theorem dX4_isDone_199 : decode cX4_isDone 199 = .ok (.bipush 111, 2) := by decide +kernel
theorem dX4_isDone_201 : decode cX4_isDone 201 = .ok (.if_icmp .ne 7, 3) := by decide +kernel
theorem dX4_isDone_204 : decode cX4_isDone 204 = .ok (.iconst 1, 1) := by decide +kernel
theorem dX4_isDone_205 : decode cX4_isDone 205 = .ok (.goto 4, 3) := by decide +kernel
theorem dX4_isDone_208 : decode cX4_isDone 208 = .ok (.iconst 0, 1) := by decide +kernel
theorem dX4_isDone_209 : decode cX4_isDone 209 = .ok (.iastore, 1) := by decide +kernel
theorem dX4_isDone_210 : decode cX4_isDone 210 = .ok (.iconst 1, 1) := by decide +kernel
theorem dX4_isDone_211 : decode cX4_isDone 211 = .ok (.ireturn, 1) := by decide +kernel
theorem dX4_run_0 : decode cX4_run 0 = .ok (.aload_n 0, 1) := by decide +kernel
theorem dX4_run_1 : decode cX4_run 1 = .ok (.aload_n 0, 1) := by decide +kernel
theorem dX4_run_2 : decode cX4_run 2 = .ok (.invokevirtual 196, 3) := by decide +kernel
theorem dX4_run_5 : decode cX4_run 5 = .ok (.ifCond .eq 7, 3) := by decide +kernel
theorem dX4_run_8 : decode cX4_run 8 = .ok (.iconst 0, 1) := by decide +kernel
theorem dX4_run_9 : decode cX4_run 9 = .ok (.goto 4, 3) := by decide +kernel
theorem dX4_run_12 : decode cX4_run 12 = .ok (.iconst 1, 1) := by decide +kernel
theorem dX4_run_13 : decode cX4_run 13 = .ok (.invokevirtual 86, 3) := by decide +kernel
theorem dX4_run_16 : decode cX4_run 16 = .ok (.ifCond .ne 5, 3) := by decide +kernel
theorem dX4_run_19 : decode cX4_run 19 = .ok (.iconst 0, 1) := by decide +kernel
theorem dX4_run_20 : decode cX4_run 20 = .ok (.ireturn, 1) := by decide +kernel
theorem dX4_run_21 : decode cX4_run 21 = .ok (.aload_n 0, 1) := by decide +kernel
theorem dX4_run_22 : decode cX4_run 22 = .ok (.invokevirtual 80, 3) := by decide +kernel
theorem dX4_run_25 : decode cX4_run 25 = .ok (.aload_n 0, 1) := by decide +kernel
theorem dX4_run_26 : decode cX4_run 26 = .ok (.iconst 0, 1) := by decide +kernel
theorem dX4_run_27 : decode cX4_run 27 = .ok (.putfield 156, 3) := by decide +kernel
theorem dX4_run_30 : decode cX4_run 30 = .ok (.iconst 0, 1) := by decide +kernel
theorem dX4_run_31 : decode cX4_run 31 = .ok (.istore_n 1, 1) := by decide +kernel
theorem dX4_run_32 : decode cX4_run 32 = .ok (.aload_n 0, 1) := by decide +kernel
theorem dX4_run_33 : decode cX4_run 33 = .ok (.invokevirtual 193, 3) := by decide +kernel
theorem dX4_run_36 : decode cX4_run 36 = .ok (.ifCond .eq 23, 3) := by decide +kernel
theorem dX4_run_39 : decode cX4_run 39 = .ok (.aload_n 0, 1) := by decide +kernel
theorem dX4_run_40 : decode cX4_run 40 = .ok (.invokevirtual 199, 3) := by decide +kernel
theorem dX4_run_43 : decode cX4_run 43 = .ok (.ifCond .eq 16, 3) := by decide +kernel
theorem dX4_run_46 : decode cX4_run 46 = .ok (.iinc 1 1, 3) := by decide +kernel
theorem dX4_run_49 : decode cX4_run 49 = .ok (.aload_n 0, 1) := by decide +kernel
theorem dX4_run_50 : decode cX4_run 50 = .ok (.bipush 59, 2) := by decide +kernel
theorem dX4_run_52 : decode cX4_run 52 = .ok (.invokevirtual 181, 3) := by decide +kernel
theorem dX4_run_55 : decode cX4_run 55 = .ok (.pop, 1) := by decide +kernel
theorem dX4_run_56 : decode cX4_run 56 = .ok (.goto (-24), 3) := by decide +kernel
theorem dX4_run_59 : decode cX4_run 59 = .ok (.aload_n 0, 1) := by decide +kernel
theorem dX4_run_60 : decode cX4_run 60 = .ok (.iconst 0, 1) := by decide +kernel
theorem dX4_run_61 : decode cX4_run 61 = .ok (.putfield 153, 3) := by decide +kernel
theorem dX4_run_64 : decode cX4_run 64 = .ok (.iload_n 1, 1) := by decide +kernel
theorem dX4_run_65 : decode cX4_run 65 = .ok (.ireturn, 1) := by decide +kernel
theorem dX4_undo_0 : decode cX4_undo 0 = .ok (.aload_n 0, 1) := by decide +kernel
theorem dX4_undo_1 : decode cX4_undo 1 = .ok (.aload_n 0, 1) := by decide +kernel
theorem dX4_undo_2 : decode cX4_undo 2 = .ok (.getfield 73, 3) := by decide +kernel
theorem dX4_undo_5 : decode cX4_undo 5 = .ok (.ifCond .le 7, 3) := by decide +kernel
theorem dX4_undo_8 : decode cX4_undo 8 = .ok (.iconst 0, 1) := by decide +kernel
theorem dX4_undo_9 : decode cX4_undo 9 = .ok (.goto 4, 3) := by decide +kernel
theorem dX4_undo_12 : decode cX4_undo 12 = .ok (.iconst 1, 1) := by decide +kernel
theorem dX4_undo_13 : decode cX4_undo 13 = .ok (.invokevirtual 86, 3) := by decide +kernel
theorem dX4_undo_16 : decode cX4_undo 16 = .ok (.ifCond .ne 5, 3) := by decide +kernel
theorem dX4_undo_19 : decode cX4_undo 19 = .ok (.iconst 0, 1) := by decide +kernel
theorem dX4_undo_20 : decode cX4_undo 20 = .ok (.ireturn, 1) := by decide +kernel
theorem dX4_undo_21 : decode cX4_undo 21 = .ok (.aload_n 0, 1) := by decide +kernel
theorem dX4_undo_22 : decode cX4_undo 22 = .ok (.aload_n 0, 1) := by decide +kernel
theorem dX4_undo_23 : decode cX4_undo 23 = .ok (.getfield 73, 3) := by decide +kernel
theorem dX4_undo_26 : decode cX4_undo 26 = .ok (.iconst 0, 1) := by decide +kernel
theorem dX4_undo_27 : decode cX4_undo 27 = .ok (.invokevirtual 76, 3) := by decide +kernel
theorem dX4_undo_30 : decode cX4_undo 30 = .ok (.aload_n 0, 1) := by decide +kernel
theorem dX4_undo_31 : decode cX4_undo 31 = .ok (.dup, 1) := by decide +kernel
theorem dX4_undo_32 : decode cX4_undo 32 = .ok (.getfield 73, 3) := by decide +kernel
theorem dX4_undo_35 : decode cX4_undo 35 = .ok (.iconst 1, 1) := by decide +kernel
theorem dX4_undo_36 : decode cX4_undo 36 = .ok (.isub, 1) := by decide +kernel
theorem dX4_undo_37 : decode cX4_undo 37 = .ok (.putfield 73, 3) := by decide +kernel
theorem dX4_undo_40 : decode cX4_undo 40 = .ok (.aload_n 0, 1) := by decide +kernel
theorem dX4_undo_41 : decode cX4_undo 41 = .ok (.getfield 73, 3) := by decide +kernel
theorem dX4_undo_44 : decode cX4_undo 44 = .ok (.ireturn, 1) := by decide +kernel
theorem dX4_savedStates_0 : decode cX4_savedStates 0 = .ok (.aload_n 0, 1) := by decide +kernel
theorem dX4_savedStates_1 : decode cX4_savedStates 1 = .ok (.aload_n 0, 1) := by decide +kernel
theorem dX4_savedStates_2 : decode cX4_savedStates 2 = .ok (.getfield 73, 3) := by decide +kernel
theorem dX4_savedStates_5 : decode cX4_savedStates 5 = .ok (.invokevirtual 107, 3) := by decide +kernel
theorem dX4_savedStates_8 : decode cX4_savedStates 8 = .ok (.ireturn, 1) := by decide +kernel
theorem dX4_mix_0 : decode cX4_mix 0 = .ok (.aload_n 0, 1) := by decide +kernel
theorem dX4_mix_1 : decode cX4_mix 1 = .ok (.ldc2_w 202, 3) := by decide +kernel
theorem dX4_mix_4 : decode cX4_mix 4 = .ok (.aload_n 0, 1) := by decide +kernel
theorem dX4_mix_5 : decode cX4_mix 5 = .ok (.getfield 204, 3) := by decide +kernel
theorem dX4_mix_8 : decode cX4_mix 8 = .ok (.lmul, 1) := by decide +kernel
theorem dX4_mix_9 : decode cX4_mix 9 = .ok (.lload_n 1, 1) := by decide +kernel
theorem dX4_mix_10 : decode cX4_mix 10 = .ok (.ladd, 1) := by decide +kernel
theorem dX4_mix_11 : decode cX4_mix 11 = .ok (.putfield 204, 3) := by decide +kernel
theorem dX4_mix_14 : decode cX4_mix 14 = .ok (.return_, 1) := by decide +kernel
theorem dX4_digest_0 : decode cX4_digest 0 = .ok (.aload_n 0, 1) := by decide +kernel
theorem dX4_digest_1 : decode cX4_digest 1 = .ok (.iconst 0, 1) := by decide +kernel
theorem dX4_digest_2 : decode cX4_digest 2 = .ok (.putfield 16, 3) := by decide +kernel
theorem dX4_digest_5 : decode cX4_digest 5 = .ok (.aload_n 0, 1) := by decide +kernel
theorem dX4_digest_6 : decode cX4_digest 6 = .ok (.ldc2_w 208, 3) := by decide +kernel
theorem dX4_digest_9 : decode cX4_digest 9 = .ok (.putfield 204, 3) := by decide +kernel
theorem dX4_digest_12 : decode cX4_digest 12 = .ok (.aload_n 0, 1) := by decide +kernel
theorem dX4_digest_13 : decode cX4_digest 13 = .ok (.aload_n 0, 1) := by decide +kernel
theorem dX4_digest_14 : decode cX4_digest 14 = .ok (.getfield 7, 3) := by decide +kernel
theorem dX4_digest_17 : decode cX4_digest 17 = .ok (.iconst 0, 1) := by decide +kernel
theorem dX4_digest_18 : decode cX4_digest 18 = .ok (.iaload, 1) := by decide +kernel
theorem dX4_digest_19 : decode cX4_digest 19 = .ok (.i2l, 1) := by decide +kernel
theorem dX4_digest_20 : decode cX4_digest 20 = .ok (.invokevirtual 210, 3) := by decide +kernel
theorem dX4_digest_23 : decode cX4_digest 23 = .ok (.aload_n 0, 1) := by decide +kernel
theorem dX4_digest_24 : decode cX4_digest 24 = .ok (.aload_n 0, 1) := by decide +kernel
theorem dX4_digest_25 : decode cX4_digest 25 = .ok (.getfield 7, 3) := by decide +kernel
theorem dX4_digest_28 : decode cX4_digest 28 = .ok (.iconst 1, 1) := by decide +kernel
theorem dX4_digest_29 : decode cX4_digest 29 = .ok (.iaload, 1) := by decide +kernel
theorem dX4_digest_30 : decode cX4_digest 30 = .ok (.i2l, 1) := by decide +kernel
theorem dX4_digest_31 : decode cX4_digest 31 = .ok (.invokevirtual 210, 3) := by decide +kernel
theorem dX4_digest_34 : decode cX4_digest 34 = .ok (.aload_n 0, 1) := by decide +kernel
theorem dX4_digest_35 : decode cX4_digest 35 = .ok (.aload_n 0, 1) := by decide +kernel
theorem dX4_digest_36 : decode cX4_digest 36 = .ok (.getfield 7, 3) := by decide +kernel
theorem dX4_digest_39 : decode cX4_digest 39 = .ok (.iconst 2, 1) := by decide +kernel
theorem dX4_digest_40 : decode cX4_digest 40 = .ok (.iaload, 1) := by decide +kernel
theorem dX4_digest_41 : decode cX4_digest 41 = .ok (.i2l, 1) := by decide +kernel
theorem dX4_digest_42 : decode cX4_digest 42 = .ok (.invokevirtual 210, 3) := by decide +kernel
theorem dX4_digest_45 : decode cX4_digest 45 = .ok (.iconst 0, 1) := by decide +kernel
theorem dX4_digest_46 : decode cX4_digest 46 = .ok (.istore_n 1, 1) := by decide +kernel
theorem dX4_digest_47 : decode cX4_digest 47 = .ok (.iload_n 1, 1) := by decide +kernel
theorem dX4_digest_48 : decode cX4_digest 48 = .ok (.iconst 5, 1) := by decide +kernel
theorem dX4_digest_49 : decode cX4_digest 49 = .ok (.if_icmp .ge 22, 3) := by decide +kernel
theorem dX4_digest_52 : decode cX4_digest 52 = .ok (.aload_n 0, 1) := by decide +kernel
theorem dX4_digest_53 : decode cX4_digest 53 = .ok (.aload_n 0, 1) := by decide +kernel
theorem dX4_digest_54 : decode cX4_digest 54 = .ok (.getfield 7, 3) := by decide +kernel
theorem dX4_digest_57 : decode cX4_digest 57 = .ok (.iconst 3, 1) := by decide +kernel
theorem dX4_digest_58 : decode cX4_digest 58 = .ok (.iload_n 1, 1) := by decide +kernel
theorem dX4_digest_59 : decode cX4_digest 59 = .ok (.iadd, 1) := by decide +kernel
theorem dX4_digest_60 : decode cX4_digest 60 = .ok (.iaload, 1) := by decide +kernel
theorem dX4_digest_61 : decode cX4_digest 61 = .ok (.i2l, 1) := by decide +kernel
theorem dX4_digest_62 : decode cX4_digest 62 = .ok (.invokevirtual 210, 3) := by decide +kernel
theorem dX4_digest_65 : decode cX4_digest 65 = .ok (.iinc 1 1, 3) := by decide +kernel
theorem dX4_digest_68 : decode cX4_digest 68 = .ok (.goto (-21), 3) := by decide +kernel
theorem dX4_digest_71 : decode cX4_digest 71 = .ok (.iconst 0, 1) := by decide +kernel
theorem dX4_digest_72 : decode cX4_digest 72 = .ok (.istore_n 1, 1) := by decide +kernel
theorem dX4_digest_73 : decode cX4_digest 73 = .ok (.iload_n 1, 1) := by decide +kernel
theorem dX4_digest_74 : decode cX4_digest 74 = .ok (.bipush 8, 2) := by decide +kernel
theorem dX4_digest_76 : decode cX4_digest 76 = .ok (.if_icmp .ge 57, 3) := by decide +kernel
theorem dX4_digest_79 : decode cX4_digest 79 = .ok (.aload_n 0, 1) := by decide +kernel
theorem dX4_digest_80 : decode cX4_digest 80 = .ok (.aload_n 0, 1) := by decide +kernel
theorem dX4_digest_81 : decode cX4_digest 81 = .ok (.getfield 7, 3) := by decide +kernel
theorem dX4_digest_84 : decode cX4_digest 84 = .ok (.bipush 8, 2) := by decide +kernel
theorem dX4_digest_86 : decode cX4_digest 86 = .ok (.iload_n 1, 1) := by decide +kernel
theorem dX4_digest_87 : decode cX4_digest 87 = .ok (.iadd, 1) := by decide +kernel
theorem dX4_digest_88 : decode cX4_digest 88 = .ok (.iaload, 1) := by decide +kernel
theorem dX4_digest_89 : decode cX4_digest 89 = .ok (.i2l, 1) := by decide +kernel
theorem dX4_digest_90 : decode cX4_digest 90 = .ok (.invokevirtual 210, 3) := by decide +kernel
theorem dX4_digest_93 : decode cX4_digest 93 = .ok (.aload_n 0, 1) := by decide +kernel
theorem dX4_digest_94 : decode cX4_digest 94 = .ok (.aload_n 0, 1) := by decide +kernel
theorem dX4_digest_95 : decode cX4_digest 95 = .ok (.getfield 7, 3) := by decide +kernel
theorem dX4_digest_98 : decode cX4_digest 98 = .ok (.bipush 16, 2) := by decide +kernel
theorem dX4_digest_100 : decode cX4_digest 100 = .ok (.iload_n 1, 1) := by decide +kernel
theorem dX4_digest_101 : decode cX4_digest 101 = .ok (.iadd, 1) := by decide +kernel
theorem dX4_digest_102 : decode cX4_digest 102 = .ok (.iaload, 1) := by decide +kernel
theorem dX4_digest_103 : decode cX4_digest 103 = .ok (.i2l, 1) := by decide +kernel
theorem dX4_digest_104 : decode cX4_digest 104 = .ok (.invokevirtual 210, 3) := by decide +kernel
theorem dX4_digest_107 : decode cX4_digest 107 = .ok (.aload_n 0, 1) := by decide +kernel
theorem dX4_digest_108 : decode cX4_digest 108 = .ok (.aload_n 0, 1) := by decide +kernel
theorem dX4_digest_109 : decode cX4_digest 109 = .ok (.iload_n 1, 1) := by decide +kernel
theorem dX4_digest_110 : decode cX4_digest 110 = .ok (.invokevirtual 123, 3) := by decide +kernel
theorem dX4_digest_113 : decode cX4_digest 113 = .ok (.i2l, 1) := by decide +kernel
theorem dX4_digest_114 : decode cX4_digest 114 = .ok (.invokevirtual 210, 3) := by decide +kernel
theorem dX4_digest_117 : decode cX4_digest 117 = .ok (.aload_n 0, 1) := by decide +kernel
theorem dX4_digest_118 : decode cX4_digest 118 = .ok (.aload_n 0, 1) := by decide +kernel
theorem dX4_digest_119 : decode cX4_digest 119 = .ok (.iload_n 1, 1) := by decide +kernel
theorem dX4_digest_120 : decode cX4_digest 120 = .ok (.invokevirtual 144, 3) := by decide +kernel
theorem dX4_digest_123 : decode cX4_digest 123 = .ok (.i2l, 1) := by decide +kernel
theorem dX4_digest_124 : decode cX4_digest 124 = .ok (.invokevirtual 210, 3) := by decide +kernel
theorem dX4_digest_127 : decode cX4_digest 127 = .ok (.iinc 1 1, 3) := by decide +kernel
theorem dX4_digest_130 : decode cX4_digest 130 = .ok (.goto (-57), 3) := by decide +kernel
theorem dX4_digest_133 : decode cX4_digest 133 = .ok (.iconst 0, 1) := by decide +kernel
theorem dX4_digest_134 : decode cX4_digest 134 = .ok (.istore_n 1, 1) := by decide +kernel
theorem dX4_digest_135 : decode cX4_digest 135 = .ok (.iload_n 1, 1) := by decide +kernel
theorem dX4_digest_136 : decode cX4_digest 136 = .ok (.aload_n 0, 1) := by decide +kernel
theorem dX4_digest_137 : decode cX4_digest 137 = .ok (.getfield 7, 3) := by decide +kernel
theorem dX4_digest_140 : decode cX4_digest 140 = .ok (.iconst 0, 1) := by decide +kernel
theorem dX4_digest_141 : decode cX4_digest 141 = .ok (.iaload, 1) := by decide +kernel
theorem dX4_digest_142 : decode cX4_digest 142 = .ok (.if_icmp .ge 60, 3) := by decide +kernel
theorem dX4_digest_145 : decode cX4_digest 145 = .ok (.iconst 1, 1) := by decide +kernel
theorem dX4_digest_146 : decode cX4_digest 146 = .ok (.istore_n 2, 1) := by decide +kernel
theorem dX4_digest_147 : decode cX4_digest 147 = .ok (.iload_n 2, 1) := by decide +kernel
theorem dX4_digest_148 : decode cX4_digest 148 = .ok (.iconst 4, 1) := by decide +kernel
theorem dX4_digest_149 : decode cX4_digest 149 = .ok (.if_icmp .ge 20, 3) := by decide +kernel
theorem dX4_digest_152 : decode cX4_digest 152 = .ok (.aload_n 0, 1) := by decide +kernel
theorem dX4_digest_153 : decode cX4_digest 153 = .ok (.aload_n 0, 1) := by decide +kernel
theorem dX4_digest_154 : decode cX4_digest 154 = .ok (.iload_n 1, 1) := by decide +kernel
theorem dX4_digest_155 : decode cX4_digest 155 = .ok (.iload_n 2, 1) := by decide +kernel
theorem dX4_digest_156 : decode cX4_digest 156 = .ok (.invokevirtual 24, 3) := by decide +kernel
theorem dX4_digest_159 : decode cX4_digest 159 = .ok (.i2l, 1) := by decide +kernel
theorem dX4_digest_160 : decode cX4_digest 160 = .ok (.invokevirtual 210, 3) := by decide +kernel
theorem dX4_digest_163 : decode cX4_digest 163 = .ok (.iinc 2 1, 3) := by decide +kernel
theorem dX4_digest_166 : decode cX4_digest 166 = .ok (.goto (-19), 3) := by decide +kernel
theorem dX4_digest_169 : decode cX4_digest 169 = .ok (.aload_n 0, 1) := by decide +kernel
theorem dX4_digest_170 : decode cX4_digest 170 = .ok (.aload_n 0, 1) := by decide +kernel
theorem dX4_digest_171 : decode cX4_digest 171 = .ok (.iload_n 1, 1) := by decide +kernel
theorem dX4_digest_172 : decode cX4_digest 172 = .ok (.invokevirtual 49, 3) := by decide +kernel
theorem dX4_digest_175 : decode cX4_digest 175 = .ok (.i2l, 1) := by decide +kernel
theorem dX4_digest_176 : decode cX4_digest 176 = .ok (.invokevirtual 210, 3) := by decide +kernel
theorem dX4_digest_179 : decode cX4_digest 179 = .ok (.aload_n 0, 1) := by decide +kernel
theorem dX4_digest_180 : decode cX4_digest 180 = .ok (.aload_n 0, 1) := by decide +kernel
theorem dX4_digest_181 : decode cX4_digest 181 = .ok (.iload_n 1, 1) := by decide +kernel
theorem dX4_digest_182 : decode cX4_digest 182 = .ok (.invokevirtual 113, 3) := by decide +kernel
theorem dX4_digest_185 : decode cX4_digest 185 = .ok (.ifCond .eq 7, 3) := by decide +kernel
theorem dX4_digest_188 : decode cX4_digest 188 = .ok (.lconst 1, 1) := by decide +kernel
theorem dX4_digest_189 : decode cX4_digest 189 = .ok (.goto 4, 3) := by decide +kernel
theorem dX4_digest_192 : decode cX4_digest 192 = .ok (.lconst 0, 1) := by decide +kernel
theorem dX4_digest_193 : decode cX4_digest 193 = .ok (.invokevirtual 210, 3) := by decide +kernel
theorem dX4_digest_196 : decode cX4_digest 196 = .ok (.iinc 1 1, 3) := by decide +kernel
theorem dX4_digest_199 : decode cX4_digest 199 = .ok (.goto (-64), 3) := by decide +kernel
theorem dX4_digest_202 : decode cX4_digest 202 = .ok (.iconst 0, 1) := by decide +kernel
theorem dX4_digest_203 : decode cX4_digest 203 = .ok (.istore_n 1, 1) := by decide +kernel
theorem dX4_digest_204 : decode cX4_digest 204 = .ok (.iload_n 1, 1) := by decide +kernel
theorem dX4_digest_205 : decode cX4_digest 205 = .ok (.aload_n 0, 1) := by decide +kernel
theorem dX4_digest_206 : decode cX4_digest 206 = .ok (.getfield 7, 3) := by decide +kernel
theorem dX4_digest_209 : decode cX4_digest 209 = .ok (.iconst 1, 1) := by decide +kernel
theorem dX4_digest_210 : decode cX4_digest 210 = .ok (.iaload, 1) := by decide +kernel
theorem dX4_digest_211 : decode cX4_digest 211 = .ok (.if_icmp .ge 44, 3) := by decide +kernel
theorem dX4_digest_214 : decode cX4_digest 214 = .ok (.iconst 0, 1) := by decide +kernel
theorem dX4_digest_215 : decode cX4_digest 215 = .ok (.istore_n 2, 1) := by decide +kernel
theorem dX4_digest_216 : decode cX4_digest 216 = .ok (.iload_n 2, 1) := by decide +kernel
theorem dX4_digest_217 : decode cX4_digest 217 = .ok (.iconst 4, 1) := by decide +kernel
theorem dX4_digest_218 : decode cX4_digest 218 = .ok (.if_icmp .ge 20, 3) := by decide +kernel
theorem dX4_digest_221 : decode cX4_digest 221 = .ok (.aload_n 0, 1) := by decide +kernel
theorem dX4_digest_222 : decode cX4_digest 222 = .ok (.aload_n 0, 1) := by decide +kernel
theorem dX4_digest_223 : decode cX4_digest 223 = .ok (.iload_n 1, 1) := by decide +kernel
theorem dX4_digest_224 : decode cX4_digest 224 = .ok (.iload_n 2, 1) := by decide +kernel
theorem dX4_digest_225 : decode cX4_digest 225 = .ok (.invokevirtual 46, 3) := by decide +kernel
theorem dX4_digest_228 : decode cX4_digest 228 = .ok (.i2l, 1) := by decide +kernel
theorem dX4_digest_229 : decode cX4_digest 229 = .ok (.invokevirtual 210, 3) := by decide +kernel
theorem dX4_digest_232 : decode cX4_digest 232 = .ok (.iinc 2 1, 3) := by decide +kernel
theorem dX4_digest_235 : decode cX4_digest 235 = .ok (.goto (-19), 3) := by decide +kernel
theorem dX4_digest_238 : decode cX4_digest 238 = .ok (.aload_n 0, 1) := by decide +kernel
theorem dX4_digest_239 : decode cX4_digest 239 = .ok (.aload_n 0, 1) := by decide +kernel
theorem dX4_digest_240 : decode cX4_digest 240 = .ok (.iload_n 1, 1) := by decide +kernel
theorem dX4_digest_241 : decode cX4_digest 241 = .ok (.iconst (-1), 1) := by decide +kernel
theorem dX4_digest_242 : decode cX4_digest 242 = .ok (.invokevirtual 141, 3) := by decide +kernel
theorem dX4_digest_245 : decode cX4_digest 245 = .ok (.i2l, 1) := by decide +kernel
theorem dX4_digest_246 : decode cX4_digest 246 = .ok (.invokevirtual 210, 3) := by decide +kernel
theorem dX4_digest_249 : decode cX4_digest 249 = .ok (.iinc 1 1, 3) := by decide +kernel
theorem dX4_digest_252 : decode cX4_digest 252 = .ok (.goto (-48), 3) := by decide +kernel
theorem dX4_digest_255 : decode cX4_digest 255 = .ok (.iconst 0, 1) := by decide +kernel
theorem dX4_digest_256 : decode cX4_digest 256 = .ok (.istore_n 1, 1) := by decide +kernel
theorem dX4_digest_257 : decode cX4_digest 257 = .ok (.iload_n 1, 1) := by decide +kernel
theorem dX4_digest_258 : decode cX4_digest 258 = .ok (.iconst 4, 1) := by decide +kernel
theorem dX4_digest_259 : decode cX4_digest 259 = .ok (.if_icmp .ge 23, 3) := by decide +kernel
theorem dX4_digest_262 : decode cX4_digest 262 = .ok (.aload_n 0, 1) := by decide +kernel
theorem dX4_digest_263 : decode cX4_digest 263 = .ok (.aload_n 0, 1) := by decide +kernel
theorem dX4_digest_264 : decode cX4_digest 264 = .ok (.getfield 7, 3) := by decide +kernel
theorem dX4_digest_267 : decode cX4_digest 267 = .ok (.bipush 114, 2) := by decide +kernel
theorem dX4_digest_269 : decode cX4_digest 269 = .ok (.iload_n 1, 1) := by decide +kernel
theorem dX4_digest_270 : decode cX4_digest 270 = .ok (.iadd, 1) := by decide +kernel
theorem dX4_digest_271 : decode cX4_digest 271 = .ok (.iaload, 1) := by decide +kernel
theorem dX4_digest_272 : decode cX4_digest 272 = .ok (.i2l, 1) := by decide +kernel
theorem dX4_digest_273 : decode cX4_digest 273 = .ok (.invokevirtual 210, 3) := by decide +kernel
theorem dX4_digest_276 : decode cX4_digest 276 = .ok (.iinc 1 1, 3) := by decide +kernel
theorem dX4_digest_279 : decode cX4_digest 279 = .ok (.goto (-22), 3) := by decide +kernel
theorem dX4_digest_282 : decode cX4_digest 282 = .ok (.iconst 1, 1) := by decide +kernel
theorem dX4_digest_283 : decode cX4_digest 283 = .ok (.istore_n 1, 1) := by decide +kernel
theorem dX4_digest_284 : decode cX4_digest 284 = .ok (.iload_n 1, 1) := by decide +kernel
theorem dX4_digest_285 : decode cX4_digest 285 = .ok (.iconst 4, 1) := by decide +kernel
theorem dX4_digest_286 : decode cX4_digest 286 = .ok (.if_icmp .ge 19, 3) := by decide +kernel
theorem dX4_digest_289 : decode cX4_digest 289 = .ok (.aload_n 0, 1) := by decide +kernel
theorem dX4_digest_290 : decode cX4_digest 290 = .ok (.aload_n 0, 1) := by decide +kernel
theorem dX4_digest_291 : decode cX4_digest 291 = .ok (.iload_n 1, 1) := by decide +kernel
theorem dX4_digest_292 : decode cX4_digest 292 = .ok (.invokevirtual 150, 3) := by decide +kernel
theorem dX4_digest_295 : decode cX4_digest 295 = .ok (.i2l, 1) := by decide +kernel
theorem dX4_digest_296 : decode cX4_digest 296 = .ok (.invokevirtual 210, 3) := by decide +kernel
theorem dX4_digest_299 : decode cX4_digest 299 = .ok (.iinc 1 1, 3) := by decide +kernel
theorem dX4_digest_302 : decode cX4_digest 302 = .ok (.goto (-18), 3) := by decide +kernel
theorem dX4_digest_305 : decode cX4_digest 305 = .ok (.aload_n 0, 1) := by decide +kernel
theorem dX4_digest_306 : decode cX4_digest 306 = .ok (.getfield 204, 3) := by decide +kernel
theorem dX4_digest_309 : decode cX4_digest 309 = .ok (.lreturn, 1) := by decide +kernel
