theorem dX0_init_0 : decode cX0_init 0 = .ok (.aload_n 0, 1) := by decide +kernel
theorem dX0_init_1 : decode cX0_init 1 = .ok (.invokespecial 3, 3) := by decide +kernel
theorem dX0_init_4 : decode cX0_init 4 = .ok (.aload_n 0, 1) := by decide +kernel
theorem dX0_init_5 : decode cX0_init 5 = .ok (.bipush 60, 2) := by decide +kernel
theorem dX0_init_7 : decode cX0_init 7 = .ok (.newarray .int, 2) := by decide +kernel
theorem dX0_init_9 : decode cX0_init 9 = .ok (.putfield 9, 3) := by decide +kernel
theorem dX0_init_12 : decode cX0_init 12 = .ok (.return_, 1) := by decide +kernel
theorem dX1_init_0 : decode cX1_init 0 = .ok (.aload_n 0, 1) := by decide +kernel
theorem dX1_init_1 : decode cX1_init 1 = .ok (.invokespecial 3, 3) := by decide +kernel
theorem dX1_init_4 : decode cX1_init 4 = .ok (.aload_n 0, 1) := by decide +kernel
theorem dX1_init_5 : decode cX1_init 5 = .ok (.bipush 6, 2) := by decide +kernel
theorem dX1_init_7 : decode cX1_init 7 = .ok (.anewarray 9, 3) := by decide +kernel
theorem dX1_init_10 : decode cX1_init 10 = .ok (.putfield 11, 3) := by decide +kernel
theorem dX1_init_13 : decode cX1_init 13 = .ok (.iconst 0, 1) := by decide +kernel
theorem dX1_init_14 : decode cX1_init 14 = .ok (.istore_n 1, 1) := by decide +kernel
theorem dX1_init_15 : decode cX1_init 15 = .ok (.iload_n 1, 1) := by decide +kernel
theorem dX1_init_16 : decode cX1_init 16 = .ok (.aload_n 0, 1) := by decide +kernel
theorem dX1_init_17 : decode cX1_init 17 = .ok (.getfield 11, 3) := by decide +kernel
theorem dX1_init_20 : decode cX1_init 20 = .ok (.arraylength, 1) := by decide +kernel
theorem dX1_init_21 : decode cX1_init 21 = .ok (.if_icmp .ge 22, 3) := by decide +kernel
theorem dX1_init_24 : decode cX1_init 24 = .ok (.aload_n 0, 1) := by decide +kernel
theorem dX1_init_25 : decode cX1_init 25 = .ok (.getfield 11, 3) := by decide +kernel
theorem dX1_init_28 : decode cX1_init 28 = .ok (.iload_n 1, 1) := by decide +kernel
theorem dX1_init_29 : decode cX1_init 29 = .ok (.new 9, 3) := by decide +kernel
theorem dX1_init_32 : decode cX1_init 32 = .ok (.dup, 1) := by decide +kernel
theorem dX1_init_33 : decode cX1_init 33 = .ok (.invokespecial 17, 3) := by decide +kernel
theorem dX1_init_36 : decode cX1_init 36 = .ok (.aastore, 1) := by decide +kernel
theorem dX1_init_37 : decode cX1_init 37 = .ok (.iinc 1 1, 3) := by decide +kernel
theorem dX1_init_40 : decode cX1_init 40 = .ok (.goto (-25), 3) := by decide +kernel
theorem dX1_init_43 : decode cX1_init 43 = .ok (.return_, 1) := by decide +kernel
theorem dX1_keep_0 : decode cX1_keep 0 = .ok (.aload_n 0, 1) := by decide +kernel
theorem dX1_keep_1 : decode cX1_keep 1 = .ok (.aload_n 0, 1) := by decide +kernel
theorem dX1_keep_2 : decode cX1_keep 2 = .ok (.getfield 18, 3) := by decide +kernel
theorem dX1_keep_5 : decode cX1_keep 5 = .ok (.invokevirtual 22, 3) := by decide +kernel
theorem dX1_keep_8 : decode cX1_keep 8 = .ok (.astore_n 2, 1) := by decide +kernel
theorem dX1_keep_9 : decode cX1_keep 9 = .ok (.aload_n 2, 1) := by decide +kernel
theorem dX1_keep_10 : decode cX1_keep 10 = .ok (.ifnull 8, 3) := by decide +kernel
theorem dX1_keep_13 : decode cX1_keep 13 = .ok (.aload_n 2, 1) := by decide +kernel
theorem dX1_keep_14 : decode cX1_keep 14 = .ok (.aload_n 1, 1) := by decide +kernel
theorem dX1_keep_15 : decode cX1_keep 15 = .ok (.invokevirtual 26, 3) := by decide +kernel
theorem dX1_keep_18 : decode cX1_keep 18 = .ok (.aload_n 0, 1) := by decide +kernel
theorem dX1_keep_19 : decode cX1_keep 19 = .ok (.aload_n 0, 1) := by decide +kernel
theorem dX1_keep_20 : decode cX1_keep 20 = .ok (.getfield 18, 3) := by decide +kernel
theorem dX1_keep_23 : decode cX1_keep 23 = .ok (.iconst 1, 1) := by decide +kernel
theorem dX1_keep_24 : decode cX1_keep 24 = .ok (.iadd, 1) := by decide +kernel
theorem dX1_keep_25 : decode cX1_keep 25 = .ok (.bipush 6, 2) := by decide +kernel
theorem dX1_keep_27 : decode cX1_keep 27 = .ok (.if_icmp .ge 12, 3) := by decide +kernel
theorem dX1_keep_30 : decode cX1_keep 30 = .ok (.aload_n 0, 1) := by decide +kernel
theorem dX1_keep_31 : decode cX1_keep 31 = .ok (.getfield 18, 3) := by decide +kernel
theorem dX1_keep_34 : decode cX1_keep 34 = .ok (.iconst 1, 1) := by decide +kernel
theorem dX1_keep_35 : decode cX1_keep 35 = .ok (.iadd, 1) := by decide +kernel
theorem dX1_keep_36 : decode cX1_keep 36 = .ok (.goto 4, 3) := by decide +kernel
theorem dX1_keep_39 : decode cX1_keep 39 = .ok (.iconst 0, 1) := by decide +kernel
theorem dX1_keep_40 : decode cX1_keep 40 = .ok (.putfield 18, 3) := by decide +kernel
theorem dX1_keep_43 : decode cX1_keep 43 = .ok (.aload_n 0, 1) := by decide +kernel
theorem dX1_keep_44 : decode cX1_keep 44 = .ok (.aload_n 0, 1) := by decide +kernel
theorem dX1_keep_45 : decode cX1_keep 45 = .ok (.getfield 30, 3) := by decide +kernel
theorem dX1_keep_48 : decode cX1_keep 48 = .ok (.iconst 1, 1) := by decide +kernel
theorem dX1_keep_49 : decode cX1_keep 49 = .ok (.iadd, 1) := by decide +kernel
theorem dX1_keep_50 : decode cX1_keep 50 = .ok (.bipush 6, 2) := by decide +kernel
theorem dX1_keep_52 : decode cX1_keep 52 = .ok (.invokestatic 33, 3) := by decide +kernel
theorem dX1_keep_55 : decode cX1_keep 55 = .ok (.putfield 30, 3) := by decide +kernel
theorem dX1_keep_58 : decode cX1_keep 58 = .ok (.return_, 1) := by decide +kernel
theorem dX1_giveBack_0 : decode cX1_giveBack 0 = .ok (.aload_n 0, 1) := by decide +kernel
theorem dX1_giveBack_1 : decode cX1_giveBack 1 = .ok (.aload_n 0, 1) := by decide +kernel
theorem dX1_giveBack_2 : decode cX1_giveBack 2 = .ok (.getfield 18, 3) := by decide +kernel
theorem dX1_giveBack_5 : decode cX1_giveBack 5 = .ok (.ifCond .le 12, 3) := by decide +kernel
theorem dX1_giveBack_8 : decode cX1_giveBack 8 = .ok (.aload_n 0, 1) := by decide +kernel
theorem dX1_giveBack_9 : decode cX1_giveBack 9 = .ok (.getfield 18, 3) := by decide +kernel
theorem dX1_giveBack_12 : decode cX1_giveBack 12 = .ok (.iconst 1, 1) := by decide +kernel
theorem dX1_giveBack_13 : decode cX1_giveBack 13 = .ok (.isub, 1) := by decide +kernel
theorem dX1_giveBack_14 : decode cX1_giveBack 14 = .ok (.goto 4, 3) := by decide +kernel
theorem dX1_giveBack_17 : decode cX1_giveBack 17 = .ok (.iconst 5, 1) := by decide +kernel
theorem dX1_giveBack_18 : decode cX1_giveBack 18 = .ok (.putfield 18, 3) := by decide +kernel
theorem dX1_giveBack_21 : decode cX1_giveBack 21 = .ok (.aload_n 0, 1) := by decide +kernel
theorem dX1_giveBack_22 : decode cX1_giveBack 22 = .ok (.dup, 1) := by decide +kernel
theorem dX1_giveBack_23 : decode cX1_giveBack 23 = .ok (.getfield 30, 3) := by decide +kernel
theorem dX1_giveBack_26 : decode cX1_giveBack 26 = .ok (.iconst 1, 1) := by decide +kernel
theorem dX1_giveBack_27 : decode cX1_giveBack 27 = .ok (.isub, 1) := by decide +kernel
theorem dX1_giveBack_28 : decode cX1_giveBack 28 = .ok (.putfield 30, 3) := by decide +kernel
theorem dX1_giveBack_31 : decode cX1_giveBack 31 = .ok (.aload_n 0, 1) := by decide +kernel
theorem dX1_giveBack_32 : decode cX1_giveBack 32 = .ok (.aload_n 0, 1) := by decide +kernel
theorem dX1_giveBack_33 : decode cX1_giveBack 33 = .ok (.getfield 18, 3) := by decide +kernel
theorem dX1_giveBack_36 : decode cX1_giveBack 36 = .ok (.invokevirtual 22, 3) := by decide +kernel
theorem dX1_giveBack_39 : decode cX1_giveBack 39 = .ok (.astore_n 2, 1) := by decide +kernel
theorem dX1_giveBack_40 : decode cX1_giveBack 40 = .ok (.aload_n 2, 1) := by decide +kernel
theorem dX1_giveBack_41 : decode cX1_giveBack 41 = .ok (.ifnull 8, 3) := by decide +kernel
theorem dX1_giveBack_44 : decode cX1_giveBack 44 = .ok (.aload_n 1, 1) := by decide +kernel
theorem dX1_giveBack_45 : decode cX1_giveBack 45 = .ok (.aload_n 2, 1) := by decide +kernel
theorem dX1_giveBack_46 : decode cX1_giveBack 46 = .ok (.invokevirtual 26, 3) := by decide +kernel
theorem dX1_giveBack_49 : decode cX1_giveBack 49 = .ok (.return_, 1) := by decide +kernel
theorem dX1_slotAt_0 : decode cX1_slotAt 0 = .ok (.iload_n 1, 1) := by decide +kernel
theorem dX1_slotAt_1 : decode cX1_slotAt 1 = .ok (.ifCond .lt 21, 3) := by decide +kernel
theorem dX1_slotAt_4 : decode cX1_slotAt 4 = .ok (.iload_n 1, 1) := by decide +kernel
theorem dX1_slotAt_5 : decode cX1_slotAt 5 = .ok (.aload_n 0, 1) := by decide +kernel
theorem dX1_slotAt_6 : decode cX1_slotAt 6 = .ok (.getfield 11, 3) := by decide +kernel
theorem dX1_slotAt_9 : decode cX1_slotAt 9 = .ok (.arraylength, 1) := by decide +kernel
theorem dX1_slotAt_10 : decode cX1_slotAt 10 = .ok (.if_icmp .ge 12, 3) := by decide +kernel
theorem dX1_slotAt_13 : decode cX1_slotAt 13 = .ok (.aload_n 0, 1) := by decide +kernel
theorem dX1_slotAt_14 : decode cX1_slotAt 14 = .ok (.getfield 11, 3) := by decide +kernel
theorem dX1_slotAt_17 : decode cX1_slotAt 17 = .ok (.iload_n 1, 1) := by decide +kernel
theorem dX1_slotAt_18 : decode cX1_slotAt 18 = .ok (.aaload, 1) := by decide +kernel
theorem dX1_slotAt_19 : decode cX1_slotAt 19 = .ok (.goto 4, 3) := by decide +kernel
theorem dX1_slotAt_22 : decode cX1_slotAt 22 = .ok (.aconst_null, 1) := by decide +kernel
theorem dX1_slotAt_23 : decode cX1_slotAt 23 = .ok (.areturn, 1) := by decide +kernel
theorem dX2_init_0 : decode cX2_init 0 = .ok (.aload_n 0, 1) := by decide +kernel
theorem dX2_init_1 : decode cX2_init 1 = .ok (.invokespecial 3, 3) := by decide +kernel
theorem dX2_init_4 : decode cX2_init 4 = .ok (.aload_n 0, 1) := by decide +kernel
theorem dX2_init_5 : decode cX2_init 5 = .ok (.sipush 255, 3) := by decide +kernel
theorem dX2_init_8 : decode cX2_init 8 = .ok (.putfield 9, 3) := by decide +kernel
theorem dX2_init_11 : decode cX2_init 11 = .ok (.aload_n 0, 1) := by decide +kernel
theorem dX2_init_12 : decode cX2_init 12 = .ok (.bipush 8, 2) := by decide +kernel
theorem dX2_init_14 : decode cX2_init 14 = .ok (.newarray .int, 2) := by decide +kernel
theorem dX2_init_16 : decode cX2_init 16 = .ok (.putfield 15, 3) := by decide +kernel
theorem dX2_init_19 : decode cX2_init 19 = .ok (.iconst 0, 1) := by decide +kernel
theorem dX2_init_20 : decode cX2_init 20 = .ok (.istore_n 1, 1) := by decide +kernel
theorem dX2_init_21 : decode cX2_init 21 = .ok (.iload_n 1, 1) := by decide +kernel
theorem dX2_init_22 : decode cX2_init 22 = .ok (.aload_n 0, 1) := by decide +kernel
theorem dX2_init_23 : decode cX2_init 23 = .ok (.getfield 15, 3) := by decide +kernel
theorem dX2_init_26 : decode cX2_init 26 = .ok (.arraylength, 1) := by decide +kernel
theorem dX2_init_27 : decode cX2_init 27 = .ok (.if_icmp .ge 22, 3) := by decide +kernel
theorem dX2_init_30 : decode cX2_init 30 = .ok (.aload_n 0, 1) := by decide +kernel
theorem dX2_init_31 : decode cX2_init 31 = .ok (.getfield 15, 3) := by decide +kernel
theorem dX2_init_34 : decode cX2_init 34 = .ok (.iload_n 1, 1) := by decide +kernel
theorem dX2_init_35 : decode cX2_init 35 = .ok (.sipush 1111, 3) := by decide +kernel
theorem dX2_init_38 : decode cX2_init 38 = .ok (.iload_n 1, 1) := by decide +kernel
theorem dX2_init_39 : decode cX2_init 39 = .ok (.iconst 1, 1) := by decide +kernel
theorem dX2_init_40 : decode cX2_init 40 = .ok (.iadd, 1) := by decide +kernel
theorem dX2_init_41 : decode cX2_init 41 = .ok (.imul, 1) := by decide +kernel
theorem dX2_init_42 : decode cX2_init 42 = .ok (.iastore, 1) := by decide +kernel
theorem dX2_init_43 : decode cX2_init 43 = .ok (.iinc 1 1, 3) := by decide +kernel
theorem dX2_init_46 : decode cX2_init 46 = .ok (.goto (-25), 3) := by decide +kernel
theorem dX2_init_49 : decode cX2_init 49 = .ok (.aload_n 0, 1) := by decide +kernel
theorem dX2_init_50 : decode cX2_init 50 = .ok (.bipush 18, 2) := by decide +kernel
theorem dX2_init_52 : decode cX2_init 52 = .ok (.newarray .int, 2) := by decide +kernel
theorem dX2_init_54 : decode cX2_init 54 = .ok (.putfield 19, 3) := by decide +kernel
theorem dX2_init_57 : decode cX2_init 57 = .ok (.aload_n 0, 1) := by decide +kernel
theorem dX2_init_58 : decode cX2_init 58 = .ok (.bipush 18, 2) := by decide +kernel
theorem dX2_init_60 : decode cX2_init 60 = .ok (.newarray .int, 2) := by decide +kernel
theorem dX2_init_62 : decode cX2_init 62 = .ok (.putfield 22, 3) := by decide +kernel
theorem dX2_init_65 : decode cX2_init 65 = .ok (.aload_n 0, 1) := by decide +kernel
theorem dX2_init_66 : decode cX2_init 66 = .ok (.bipush 6, 2) := by decide +kernel
theorem dX2_init_68 : decode cX2_init 68 = .ok (.newarray .int, 2) := by decide +kernel
theorem dX2_init_70 : decode cX2_init 70 = .ok (.putfield 25, 3) := by decide +kernel
theorem dX2_init_73 : decode cX2_init 73 = .ok (.aload_n 0, 1) := by decide +kernel
theorem dX2_init_74 : decode cX2_init 74 = .ok (.bipush 48, 2) := by decide +kernel
theorem dX2_init_76 : decode cX2_init 76 = .ok (.newarray .int, 2) := by decide +kernel
theorem dX2_init_78 : decode cX2_init 78 = .ok (.putfield 28, 3) := by decide +kernel
theorem dX2_init_81 : decode cX2_init 81 = .ok (.aload_n 0, 1) := by decide +kernel
theorem dX2_init_82 : decode cX2_init 82 = .ok (.iconst 4, 1) := by decide +kernel
theorem dX2_init_83 : decode cX2_init 83 = .ok (.newarray .int, 2) := by decide +kernel
theorem dX2_init_85 : decode cX2_init 85 = .ok (.putfield 31, 3) := by decide +kernel
theorem dX2_init_88 : decode cX2_init 88 = .ok (.aload_n 0, 1) := by decide +kernel
theorem dX2_init_89 : decode cX2_init 89 = .ok (.getfield 31, 3) := by decide +kernel
theorem dX2_init_92 : decode cX2_init 92 = .ok (.iconst (-1), 1) := by decide +kernel
theorem dX2_init_93 : decode cX2_init 93 = .ok (.invokestatic 34, 3) := by decide +kernel
theorem dX2_init_96 : decode cX2_init 96 = .ok (.aload_n 0, 1) := by decide +kernel
theorem dX2_init_97 : decode cX2_init 97 = .ok (.iconst 4, 1) := by decide +kernel
theorem dX2_init_98 : decode cX2_init 98 = .ok (.newarray .int, 2) := by decide +kernel
theorem dX2_init_100 : decode cX2_init 100 = .ok (.putfield 40, 3) := by decide +kernel
theorem dX2_init_103 : decode cX2_init 103 = .ok (.aload_n 0, 1) := by decide +kernel
theorem dX2_init_104 : decode cX2_init 104 = .ok (.getfield 40, 3) := by decide +kernel
theorem dX2_init_107 : decode cX2_init 107 = .ok (.iconst (-1), 1) := by decide +kernel
theorem dX2_init_108 : decode cX2_init 108 = .ok (.invokestatic 34, 3) := by decide +kernel
theorem dX2_init_111 : decode cX2_init 111 = .ok (.aload_n 0, 1) := by decide +kernel
theorem dX2_init_112 : decode cX2_init 112 = .ok (.iconst (-1), 1) := by decide +kernel
theorem dX2_init_113 : decode cX2_init 113 = .ok (.putfield 43, 3) := by decide +kernel
theorem dX2_init_116 : decode cX2_init 116 = .ok (.aload_n 0, 1) := by decide +kernel
theorem dX2_init_117 : decode cX2_init 117 = .ok (.iconst 5, 1) := by decide +kernel
theorem dX2_init_118 : decode cX2_init 118 = .ok (.newarray .int, 2) := by decide +kernel
theorem dX2_init_120 : decode cX2_init 120 = .ok (.putfield 46, 3) := by decide +kernel
theorem dX2_init_123 : decode cX2_init 123 = .ok (.return_, 1) := by decide +kernel
theorem dX2_become_0 : decode cX2_become 0 = .ok (.aload_n 0, 1) := by decide +kernel
theorem dX2_become_1 : decode cX2_become 1 = .ok (.aload_n 1, 1) := by decide +kernel
theorem dX2_become_2 : decode cX2_become 2 = .ok (.getfield 9, 3) := by decide +kernel
theorem dX2_become_5 : decode cX2_become 5 = .ok (.putfield 9, 3) := by decide +kernel
theorem dX2_become_8 : decode cX2_become 8 = .ok (.aload_n 1, 1) := by decide +kernel
theorem dX2_become_9 : decode cX2_become 9 = .ok (.getfield 15, 3) := by decide +kernel
theorem dX2_become_12 : decode cX2_become 12 = .ok (.aload_n 0, 1) := by decide +kernel
theorem dX2_become_13 : decode cX2_become 13 = .ok (.getfield 15, 3) := by decide +kernel
theorem dX2_become_16 : decode cX2_become 16 = .ok (.invokestatic 49, 3) := by decide +kernel
theorem dX2_become_19 : decode cX2_become 19 = .ok (.aload_n 0, 1) := by decide +kernel
theorem dX2_become_20 : decode cX2_become 20 = .ok (.aload_n 1, 1) := by decide +kernel
theorem dX2_become_21 : decode cX2_become 21 = .ok (.getfield 53, 3) := by decide +kernel
theorem dX2_become_24 : decode cX2_become 24 = .ok (.putfield 53, 3) := by decide +kernel
theorem dX2_become_27 : decode cX2_become 27 = .ok (.aload_n 1, 1) := by decide +kernel
theorem dX2_become_28 : decode cX2_become 28 = .ok (.getfield 19, 3) := by decide +kernel
theorem dX2_become_31 : decode cX2_become 31 = .ok (.aload_n 0, 1) := by decide +kernel
theorem dX2_become_32 : decode cX2_become 32 = .ok (.getfield 19, 3) := by decide +kernel
theorem dX2_become_35 : decode cX2_become 35 = .ok (.invokestatic 49, 3) := by decide +kernel
theorem dX2_become_38 : decode cX2_become 38 = .ok (.aload_n 1, 1) := by decide +kernel
theorem dX2_become_39 : decode cX2_become 39 = .ok (.getfield 22, 3) := by decide +kernel
theorem dX2_become_42 : decode cX2_become 42 = .ok (.aload_n 0, 1) := by decide +kernel
theorem dX2_become_43 : decode cX2_become 43 = .ok (.getfield 22, 3) := by decide +kernel
theorem dX2_become_46 : decode cX2_become 46 = .ok (.invokestatic 49, 3) := by decide +kernel
theorem dX2_become_49 : decode cX2_become 49 = .ok (.aload_n 1, 1) := by decide +kernel
theorem dX2_become_50 : decode cX2_become 50 = .ok (.getfield 25, 3) := by decide +kernel
theorem dX2_become_53 : decode cX2_become 53 = .ok (.aload_n 0, 1) := by decide +kernel
theorem dX2_become_54 : decode cX2_become 54 = .ok (.getfield 25, 3) := by decide +kernel
theorem dX2_become_57 : decode cX2_become 57 = .ok (.invokestatic 49, 3) := by decide +kernel
theorem dX2_become_60 : decode cX2_become 60 = .ok (.aload_n 0, 1) := by decide +kernel
theorem dX2_become_61 : decode cX2_become 61 = .ok (.aload_n 1, 1) := by decide +kernel
theorem dX2_become_62 : decode cX2_become 62 = .ok (.getfield 56, 3) := by decide +kernel
theorem dX2_become_65 : decode cX2_become 65 = .ok (.putfield 56, 3) := by decide +kernel
theorem dX2_become_68 : decode cX2_become 68 = .ok (.aload_n 1, 1) := by decide +kernel
theorem dX2_become_69 : decode cX2_become 69 = .ok (.getfield 28, 3) := by decide +kernel
theorem dX2_become_72 : decode cX2_become 72 = .ok (.aload_n 0, 1) := by decide +kernel
theorem dX2_become_73 : decode cX2_become 73 = .ok (.getfield 28, 3) := by decide +kernel
theorem dX2_become_76 : decode cX2_become 76 = .ok (.invokestatic 49, 3) := by decide +kernel
theorem dX2_become_79 : decode cX2_become 79 = .ok (.aload_n 1, 1) := by decide +kernel
theorem dX2_become_80 : decode cX2_become 80 = .ok (.getfield 31, 3) := by decide +kernel
theorem dX2_become_83 : decode cX2_become 83 = .ok (.aload_n 0, 1) := by decide +kernel
theorem dX2_become_84 : decode cX2_become 84 = .ok (.getfield 31, 3) := by decide +kernel
theorem dX2_become_87 : decode cX2_become 87 = .ok (.invokestatic 49, 3) := by decide +kernel
theorem dX2_become_90 : decode cX2_become 90 = .ok (.aload_n 1, 1) := by decide +kernel
theorem dX2_become_91 : decode cX2_become 91 = .ok (.getfield 40, 3) := by decide +kernel
theorem dX2_become_94 : decode cX2_become 94 = .ok (.aload_n 0, 1) := by decide +kernel
theorem dX2_become_95 : decode cX2_become 95 = .ok (.getfield 40, 3) := by decide +kernel
theorem dX2_become_98 : decode cX2_become 98 = .ok (.invokestatic 49, 3) := by decide +kernel
theorem dX2_become_101 : decode cX2_become 101 = .ok (.aload_n 0, 1) := by decide +kernel
theorem dX2_become_102 : decode cX2_become 102 = .ok (.aload_n 1, 1) := by decide +kernel
theorem dX2_become_103 : decode cX2_become 103 = .ok (.getfield 43, 3) := by decide +kernel
theorem dX2_become_106 : decode cX2_become 106 = .ok (.putfield 43, 3) := by decide +kernel
theorem dX2_become_109 : decode cX2_become 109 = .ok (.aload_n 1, 1) := by decide +kernel
theorem dX2_become_110 : decode cX2_become 110 = .ok (.getfield 46, 3) := by decide +kernel
theorem dX2_become_113 : decode cX2_become 113 = .ok (.aload_n 0, 1) := by decide +kernel
theorem dX2_become_114 : decode cX2_become 114 = .ok (.getfield 46, 3) := by decide +kernel
theorem dX2_become_117 : decode cX2_become 117 = .ok (.invokestatic 49, 3) := by decide +kernel
theorem dX2_become_120 : decode cX2_become 120 = .ok (.return_, 1) := by decide +kernel
theorem dX2_hasOpen_0 : decode cX2_hasOpen 0 = .ok (.aload_n 0, 1) := by decide +kernel
theorem dX2_hasOpen_1 : decode cX2_hasOpen 1 = .ok (.getfield 9, 3) := by decide +kernel
theorem dX2_hasOpen_4 : decode cX2_hasOpen 4 = .ok (.iload_n 1, 1) := by decide +kernel
theorem dX2_hasOpen_5 : decode cX2_hasOpen 5 = .ok (.invokestatic 59, 3) := by decide +kernel
theorem dX2_hasOpen_8 : decode cX2_hasOpen 8 = .ok (.ireturn, 1) := by decide +kernel
theorem dX2_turn_0 : decode cX2_turn 0 = .ok (.iconst 1, 1) := by decide +kernel
theorem dX2_turn_1 : decode cX2_turn 1 = .ok (.iload_n 1, 1) := by decide +kernel
theorem dX2_turn_2 : decode cX2_turn 2 = .ok (.ishl, 1) := by decide +kernel
theorem dX2_turn_3 : decode cX2_turn 3 = .ok (.istore_n 3, 1) := by decide +kernel
theorem dX2_turn_4 : decode cX2_turn 4 = .ok (.aload_n 0, 1) := by decide +kernel
theorem dX2_turn_5 : decode cX2_turn 5 = .ok (.iload_n 2, 1) := by decide +kernel
theorem dX2_turn_6 : decode cX2_turn 6 = .ok (.ifCond .eq 12, 3) := by decide +kernel
theorem dX2_turn_9 : decode cX2_turn 9 = .ok (.aload_n 0, 1) := by decide +kernel
theorem dX2_turn_10 : decode cX2_turn 10 = .ok (.getfield 9, 3) := by decide +kernel
theorem dX2_turn_13 : decode cX2_turn 13 = .ok (.iload_n 3, 1) := by decide +kernel
theorem dX2_turn_14 : decode cX2_turn 14 = .ok (.ior, 1) := by decide +kernel
theorem dX2_turn_15 : decode cX2_turn 15 = .ok (.goto 11, 3) := by decide +kernel
theorem dX2_turn_18 : decode cX2_turn 18 = .ok (.aload_n 0, 1) := by decide +kernel
theorem dX2_turn_19 : decode cX2_turn 19 = .ok (.getfield 9, 3) := by decide +kernel
theorem dX2_turn_22 : decode cX2_turn 22 = .ok (.iload_n 3, 1) := by decide +kernel
theorem dX2_turn_23 : decode cX2_turn 23 = .ok (.iconst (-1), 1) := by decide +kernel
theorem dX2_turn_24 : decode cX2_turn 24 = .ok (.ixor, 1) := by decide +kernel
theorem dX2_turn_25 : decode cX2_turn 25 = .ok (.iand, 1) := by decide +kernel
theorem dX2_turn_26 : decode cX2_turn 26 = .ok (.putfield 9, 3) := by decide +kernel
theorem dX2_turn_29 : decode cX2_turn 29 = .ok (.return_, 1) := by decide +kernel
theorem dX2_isInMask_0 : decode cX2_isInMask 0 = .ok (.iload_n 0, 1) := by decide +kernel
theorem dX2_isInMask_1 : decode cX2_isInMask 1 = .ok (.iload_n 1, 1) := by decide +kernel
theorem dX2_isInMask_2 : decode cX2_isInMask 2 = .ok (.ishr, 1) := by decide +kernel
theorem dX2_isInMask_3 : decode cX2_isInMask 3 = .ok (.iconst 1, 1) := by decide +kernel
theorem dX2_isInMask_4 : decode cX2_isInMask 4 = .ok (.iand, 1) := by decide +kernel
theorem dX2_isInMask_5 : decode cX2_isInMask 5 = .ok (.ifCond .eq 7, 3) := by decide +kernel
theorem dX2_isInMask_8 : decode cX2_isInMask 8 = .ok (.iconst 1, 1) := by decide +kernel
theorem dX2_isInMask_9 : decode cX2_isInMask 9 = .ok (.goto 4, 3) := by decide +kernel
theorem dX2_isInMask_12 : decode cX2_isInMask 12 = .ok (.iconst 0, 1) := by decide +kernel
theorem dX2_isInMask_13 : decode cX2_isInMask 13 = .ok (.ireturn, 1) := by decide +kernel
theorem dX2_addRoad_0 : decode cX2_addRoad 0 = .ok (.aload_n 0, 1) := by decide +kernel
theorem dX2_addRoad_1 : decode cX2_addRoad 1 = .ok (.getfield 53, 3) := by decide +kernel
theorem dX2_addRoad_4 : decode cX2_addRoad 4 = .ok (.istore 5, 2) := by decide +kernel
theorem dX2_addRoad_6 : decode cX2_addRoad 6 = .ok (.aload_n 0, 1) := by decide +kernel
theorem dX2_addRoad_7 : decode cX2_addRoad 7 = .ok (.iload 5, 2) := by decide +kernel
theorem dX2_addRoad_9 : decode cX2_addRoad 9 = .ok (.iconst 1, 1) := by decide +kernel
theorem dX2_addRoad_10 : decode cX2_addRoad 10 = .ok (.iload_n 1, 1) := by decide +kernel
theorem dX2_addRoad_11 : decode cX2_addRoad 11 = .ok (.invokevirtual 63, 3) := by decide +kernel
theorem dX2_addRoad_14 : decode cX2_addRoad 14 = .ok (.aload_n 0, 1) := by decide +kernel
theorem dX2_addRoad_15 : decode cX2_addRoad 15 = .ok (.iload 5, 2) := by decide +kernel
theorem dX2_addRoad_17 : decode cX2_addRoad 17 = .ok (.iconst 2, 1) := by decide +kernel
theorem dX2_addRoad_18 : decode cX2_addRoad 18 = .ok (.iload_n 2, 1) := by decide +kernel
theorem dX2_addRoad_19 : decode cX2_addRoad 19 = .ok (.invokevirtual 63, 3) := by decide +kernel
theorem dX2_addRoad_22 : decode cX2_addRoad 22 = .ok (.aload_n 0, 1) := by decide +kernel
theorem dX2_addRoad_23 : decode cX2_addRoad 23 = .ok (.iload 5, 2) := by decide +kernel
theorem dX2_addRoad_25 : decode cX2_addRoad 25 = .ok (.iconst 3, 1) := by decide +kernel
theorem dX2_addRoad_26 : decode cX2_addRoad 26 = .ok (.iload_n 3, 1) := by decide +kernel
theorem dX2_addRoad_27 : decode cX2_addRoad 27 = .ok (.invokevirtual 63, 3) := by decide +kernel
theorem dX2_addRoad_30 : decode cX2_addRoad 30 = .ok (.aload_n 0, 1) := by decide +kernel
theorem dX2_addRoad_31 : decode cX2_addRoad 31 = .ok (.getfield 25, 3) := by decide +kernel
theorem dX2_addRoad_34 : decode cX2_addRoad 34 = .ok (.iload 5, 2) := by decide +kernel
theorem dX2_addRoad_36 : decode cX2_addRoad 36 = .ok (.iload 4, 2) := by decide +kernel
theorem dX2_addRoad_38 : decode cX2_addRoad 38 = .ok (.invokestatic 67, 3) := by decide +kernel
theorem dX2_addRoad_41 : decode cX2_addRoad 41 = .ok (.aload_n 0, 1) := by decide +kernel
theorem dX2_addRoad_42 : decode cX2_addRoad 42 = .ok (.dup, 1) := by decide +kernel
theorem dX2_addRoad_43 : decode cX2_addRoad 43 = .ok (.getfield 53, 3) := by decide +kernel
theorem dX2_addRoad_46 : decode cX2_addRoad 46 = .ok (.iconst 1, 1) := by decide +kernel
theorem dX2_addRoad_47 : decode cX2_addRoad 47 = .ok (.iadd, 1) := by decide +kernel
theorem dX2_addRoad_48 : decode cX2_addRoad 48 = .ok (.putfield 53, 3) := by decide +kernel
theorem dX2_addRoad_51 : decode cX2_addRoad 51 = .ok (.iload 5, 2) := by decide +kernel
theorem dX2_addRoad_53 : decode cX2_addRoad 53 = .ok (.ireturn, 1) := by decide +kernel
theorem dX2_putInn_0 : decode cX2_putInn 0 = .ok (.aload_n 0, 1) := by decide +kernel
theorem dX2_putInn_1 : decode cX2_putInn 1 = .ok (.getfield 19, 3) := by decide +kernel
theorem dX2_putInn_4 : decode cX2_putInn 4 = .ok (.iconst 3, 1) := by decide +kernel
theorem dX2_putInn_5 : decode cX2_putInn 5 = .ok (.iload_n 1, 1) := by decide +kernel
theorem dX2_putInn_6 : decode cX2_putInn 6 = .ok (.imul, 1) := by decide +kernel
theorem dX2_putInn_7 : decode cX2_putInn 7 = .ok (.iload_n 2, 1) := by decide +kernel
theorem dX2_putInn_8 : decode cX2_putInn 8 = .ok (.iadd, 1) := by decide +kernel
theorem dX2_putInn_9 : decode cX2_putInn 9 = .ok (.iconst 1, 1) := by decide +kernel
theorem dX2_putInn_10 : decode cX2_putInn 10 = .ok (.isub, 1) := by decide +kernel
theorem dX2_putInn_11 : decode cX2_putInn 11 = .ok (.iload_n 3, 1) := by decide +kernel
theorem dX2_putInn_12 : decode cX2_putInn 12 = .ok (.invokestatic 67, 3) := by decide +kernel
theorem dX2_putInn_15 : decode cX2_putInn 15 = .ok (.aload_n 0, 1) := by decide +kernel
theorem dX2_putInn_16 : decode cX2_putInn 16 = .ok (.getfield 22, 3) := by decide +kernel
theorem dX2_putInn_19 : decode cX2_putInn 19 = .ok (.iconst 3, 1) := by decide +kernel
theorem dX2_putInn_20 : decode cX2_putInn 20 = .ok (.iload_n 1, 1) := by decide +kernel
theorem dX2_putInn_21 : decode cX2_putInn 21 = .ok (.imul, 1) := by decide +kernel
theorem dX2_putInn_22 : decode cX2_putInn 22 = .ok (.iload_n 2, 1) := by decide +kernel
theorem dX2_putInn_23 : decode cX2_putInn 23 = .ok (.iadd, 1) := by decide +kernel
theorem dX2_putInn_24 : decode cX2_putInn 24 = .ok (.iconst 1, 1) := by decide +kernel
theorem dX2_putInn_25 : decode cX2_putInn 25 = .ok (.isub, 1) := by decide +kernel
theorem dX2_putInn_26 : decode cX2_putInn 26 = .ok (.aload_n 0, 1) := by decide +kernel
theorem dX2_putInn_27 : decode cX2_putInn 27 = .ok (.getfield 15, 3) := by decide +kernel
theorem dX2_putInn_30 : decode cX2_putInn 30 = .ok (.iload_n 3, 1) := by decide +kernel
theorem dX2_putInn_31 : decode cX2_putInn 31 = .ok (.invokestatic 71, 3) := by decide +kernel
theorem dX2_putInn_34 : decode cX2_putInn 34 = .ok (.invokestatic 67, 3) := by decide +kernel
theorem dX2_putInn_37 : decode cX2_putInn 37 = .ok (.return_, 1) := by decide +kernel
theorem dX2_removeLastRoad_0 : decode cX2_removeLastRoad 0 = .ok (.aload_n 0, 1) := by decide +kernel
theorem dX2_removeLastRoad_1 : decode cX2_removeLastRoad 1 = .ok (.dup, 1) := by decide +kernel
theorem dX2_removeLastRoad_2 : decode cX2_removeLastRoad 2 = .ok (.getfield 53, 3) := by decide +kernel
theorem dX2_removeLastRoad_5 : decode cX2_removeLastRoad 5 = .ok (.iconst 1, 1) := by decide +kernel
theorem dX2_removeLastRoad_6 : decode cX2_removeLastRoad 6 = .ok (.isub, 1) := by decide +kernel
theorem dX2_removeLastRoad_7 : decode cX2_removeLastRoad 7 = .ok (.putfield 53, 3) := by decide +kernel
theorem dX2_removeLastRoad_10 : decode cX2_removeLastRoad 10 = .ok (.iconst 0, 1) := by decide +kernel
theorem dX2_removeLastRoad_11 : decode cX2_removeLastRoad 11 = .ok (.istore_n 1, 1) := by decide +kernel
theorem dX2_removeLastRoad_12 : decode cX2_removeLastRoad 12 = .ok (.iload_n 1, 1) := by decide +kernel
theorem dX2_removeLastRoad_13 : decode cX2_removeLastRoad 13 = .ok (.iconst 4, 1) := by decide +kernel
theorem dX2_removeLastRoad_14 : decode cX2_removeLastRoad 14 = .ok (.if_icmp .ge 33, 3) := by decide +kernel
theorem dX2_removeLastRoad_17 : decode cX2_removeLastRoad 17 = .ok (.aload_n 0, 1) := by decide +kernel
theorem dX2_removeLastRoad_18 : decode cX2_removeLastRoad 18 = .ok (.getfield 40, 3) := by decide +kernel
theorem dX2_removeLastRoad_21 : decode cX2_removeLastRoad 21 = .ok (.iload_n 1, 1) := by decide +kernel
theorem dX2_removeLastRoad_22 : decode cX2_removeLastRoad 22 = .ok (.invokestatic 71, 3) := by decide +kernel
theorem dX2_removeLastRoad_25 : decode cX2_removeLastRoad 25 = .ok (.aload_n 0, 1) := by decide +kernel
theorem dX2_removeLastRoad_26 : decode cX2_removeLastRoad 26 = .ok (.getfield 53, 3) := by decide +kernel
theorem dX2_removeLastRoad_29 : decode cX2_removeLastRoad 29 = .ok (.if_icmp .ne 12, 3) := by decide +kernel
theorem dX2_removeLastRoad_32 : decode cX2_removeLastRoad 32 = .ok (.aload_n 0, 1) := by decide +kernel
theorem dX2_removeLastRoad_33 : decode cX2_removeLastRoad 33 = .ok (.getfield 40, 3) := by decide +kernel
theorem dX2_removeLastRoad_36 : decode cX2_removeLastRoad 36 = .ok (.iload_n 1, 1) := by decide +kernel
theorem dX2_removeLastRoad_37 : decode cX2_removeLastRoad 37 = .ok (.iconst (-1), 1) := by decide +kernel
theorem dX2_removeLastRoad_38 : decode cX2_removeLastRoad 38 = .ok (.invokestatic 67, 3) := by decide +kernel
theorem dX2_removeLastRoad_41 : decode cX2_removeLastRoad 41 = .ok (.iinc 1 1, 3) := by decide +kernel
theorem dX2_removeLastRoad_44 : decode cX2_removeLastRoad 44 = .ok (.goto (-32), 3) := by decide +kernel
theorem dX2_removeLastRoad_47 : decode cX2_removeLastRoad 47 = .ok (.return_, 1) := by decide +kernel
theorem dX2_isUsed_0 : decode cX2_isUsed 0 = .ok (.iconst 0, 1) := by decide +kernel
theorem dX2_isUsed_1 : decode cX2_isUsed 1 = .ok (.istore_n 2, 1) := by decide +kernel
theorem dX2_isUsed_2 : decode cX2_isUsed 2 = .ok (.iload_n 2, 1) := by decide +kernel
theorem dX2_isUsed_3 : decode cX2_isUsed 3 = .ok (.aload_n 0, 1) := by decide +kernel
theorem dX2_isUsed_4 : decode cX2_isUsed 4 = .ok (.getfield 56, 3) := by decide +kernel
theorem dX2_isUsed_7 : decode cX2_isUsed 7 = .ok (.if_icmp .ge 21, 3) := by decide +kernel
theorem dX2_isUsed_10 : decode cX2_isUsed 10 = .ok (.aload_n 0, 1) := by decide +kernel
theorem dX2_isUsed_11 : decode cX2_isUsed 11 = .ok (.iload_n 2, 1) := by decide +kernel
theorem dX2_isUsed_12 : decode cX2_isUsed 12 = .ok (.iconst 0, 1) := by decide +kernel
theorem dX2_isUsed_13 : decode cX2_isUsed 13 = .ok (.invokevirtual 75, 3) := by decide +kernel
theorem dX2_isUsed_16 : decode cX2_isUsed 16 = .ok (.iload_n 1, 1) := by decide +kernel
theorem dX2_isUsed_17 : decode cX2_isUsed 17 = .ok (.if_icmp .ne 5, 3) := by decide +kernel
theorem dX2_isUsed_20 : decode cX2_isUsed 20 = .ok (.iconst 1, 1) := by decide +kernel
theorem dX2_isUsed_21 : decode cX2_isUsed 21 = .ok (.ireturn, 1) := by decide +kernel
theorem dX2_isUsed_22 : decode cX2_isUsed 22 = .ok (.iinc 2 1, 3) := by decide +kernel
theorem dX2_isUsed_25 : decode cX2_isUsed 25 = .ok (.goto (-23), 3) := by decide +kernel
theorem dX2_isUsed_28 : decode cX2_isUsed 28 = .ok (.iconst 0, 1) := by decide +kernel
theorem dX2_isUsed_29 : decode cX2_isUsed 29 = .ok (.ireturn, 1) := by decide +kernel
theorem dX2_innAt_0 : decode cX2_innAt 0 = .ok (.aload_n 0, 1) := by decide +kernel
theorem dX2_innAt_1 : decode cX2_innAt 1 = .ok (.getfield 19, 3) := by decide +kernel
theorem dX2_innAt_4 : decode cX2_innAt 4 = .ok (.iconst 3, 1) := by decide +kernel
theorem dX2_innAt_5 : decode cX2_innAt 5 = .ok (.iload_n 1, 1) := by decide +kernel
theorem dX2_innAt_6 : decode cX2_innAt 6 = .ok (.imul, 1) := by decide +kernel
theorem dX2_innAt_7 : decode cX2_innAt 7 = .ok (.iload_n 2, 1) := by decide +kernel
theorem dX2_innAt_8 : decode cX2_innAt 8 = .ok (.iadd, 1) := by decide +kernel
theorem dX2_innAt_9 : decode cX2_innAt 9 = .ok (.iconst 1, 1) := by decide +kernel
theorem dX2_innAt_10 : decode cX2_innAt 10 = .ok (.isub, 1) := by decide +kernel
theorem dX2_innAt_11 : decode cX2_innAt 11 = .ok (.invokestatic 71, 3) := by decide +kernel
theorem dX2_innAt_14 : decode cX2_innAt 14 = .ok (.ireturn, 1) := by decide +kernel
theorem dX2_keyAt_0 : decode cX2_keyAt 0 = .ok (.aload_n 0, 1) := by decide +kernel
theorem dX2_keyAt_1 : decode cX2_keyAt 1 = .ok (.getfield 22, 3) := by decide +kernel
theorem dX2_keyAt_4 : decode cX2_keyAt 4 = .ok (.iconst 3, 1) := by decide +kernel
theorem dX2_keyAt_5 : decode cX2_keyAt 5 = .ok (.iload_n 1, 1) := by decide +kernel
theorem dX2_keyAt_6 : decode cX2_keyAt 6 = .ok (.imul, 1) := by decide +kernel
theorem dX2_keyAt_7 : decode cX2_keyAt 7 = .ok (.iload_n 2, 1) := by decide +kernel
theorem dX2_keyAt_8 : decode cX2_keyAt 8 = .ok (.iadd, 1) := by decide +kernel
theorem dX2_keyAt_9 : decode cX2_keyAt 9 = .ok (.iconst 1, 1) := by decide +kernel
theorem dX2_keyAt_10 : decode cX2_keyAt 10 = .ok (.isub, 1) := by decide +kernel
theorem dX2_keyAt_11 : decode cX2_keyAt 11 = .ok (.invokestatic 71, 3) := by decide +kernel
theorem dX2_keyAt_14 : decode cX2_keyAt 14 = .ok (.ireturn, 1) := by decide +kernel
theorem dX2_placeOn_0 : decode cX2_placeOn 0 = .ok (.iconst 1, 1) := by decide +kernel
theorem dX2_placeOn_1 : decode cX2_placeOn 1 = .ok (.istore_n 3, 1) := by decide +kernel
theorem dX2_placeOn_2 : decode cX2_placeOn 2 = .ok (.iload_n 3, 1) := by decide +kernel
theorem dX2_placeOn_3 : decode cX2_placeOn 3 = .ok (.iconst 3, 1) := by decide +kernel
theorem dX2_placeOn_4 : decode cX2_placeOn 4 = .ok (.if_icmp .gt 21, 3) := by decide +kernel
theorem dX2_placeOn_7 : decode cX2_placeOn 7 = .ok (.aload_n 0, 1) := by decide +kernel
theorem dX2_placeOn_8 : decode cX2_placeOn 8 = .ok (.iload_n 1, 1) := by decide +kernel
theorem dX2_placeOn_9 : decode cX2_placeOn 9 = .ok (.iload_n 3, 1) := by decide +kernel
theorem dX2_placeOn_10 : decode cX2_placeOn 10 = .ok (.invokevirtual 79, 3) := by decide +kernel
theorem dX2_placeOn_13 : decode cX2_placeOn 13 = .ok (.iload_n 2, 1) := by decide +kernel
theorem dX2_placeOn_14 : decode cX2_placeOn 14 = .ok (.if_icmp .ne 5, 3) := by decide +kernel
theorem dX2_placeOn_17 : decode cX2_placeOn 17 = .ok (.iload_n 3, 1) := by decide +kernel
theorem dX2_placeOn_18 : decode cX2_placeOn 18 = .ok (.ireturn, 1) := by decide +kernel
theorem dX2_placeOn_19 : decode cX2_placeOn 19 = .ok (.iinc 3 1, 3) := by decide +kernel
theorem dX2_placeOn_22 : decode cX2_placeOn 22 = .ok (.goto (-20), 3) := by decide +kernel
theorem dX2_placeOn_25 : decode cX2_placeOn 25 = .ok (.iconst (-1), 1) := by decide +kernel
theorem dX2_placeOn_26 : decode cX2_placeOn 26 = .ok (.ireturn, 1) := by decide +kernel
theorem dX2_allOpenOn_0 : decode cX2_allOpenOn 0 = .ok (.iconst 1, 1) := by decide +kernel
theorem dX2_allOpenOn_1 : decode cX2_allOpenOn 1 = .ok (.istore_n 2, 1) := by decide +kernel
theorem dX2_allOpenOn_2 : decode cX2_allOpenOn 2 = .ok (.iload_n 2, 1) := by decide +kernel
theorem dX2_allOpenOn_3 : decode cX2_allOpenOn 3 = .ok (.iconst 3, 1) := by decide +kernel
theorem dX2_allOpenOn_4 : decode cX2_allOpenOn 4 = .ok (.if_icmp .gt 24, 3) := by decide +kernel
theorem dX2_allOpenOn_7 : decode cX2_allOpenOn 7 = .ok (.aload_n 0, 1) := by decide +kernel
theorem dX2_allOpenOn_8 : decode cX2_allOpenOn 8 = .ok (.aload_n 0, 1) := by decide +kernel
theorem dX2_allOpenOn_9 : decode cX2_allOpenOn 9 = .ok (.iload_n 1, 1) := by decide +kernel
theorem dX2_allOpenOn_10 : decode cX2_allOpenOn 10 = .ok (.iload_n 2, 1) := by decide +kernel
theorem dX2_allOpenOn_11 : decode cX2_allOpenOn 11 = .ok (.invokevirtual 79, 3) := by decide +kernel
theorem dX2_allOpenOn_14 : decode cX2_allOpenOn 14 = .ok (.invokevirtual 82, 3) := by decide +kernel
theorem dX2_allOpenOn_17 : decode cX2_allOpenOn 17 = .ok (.ifCond .ne 5, 3) := by decide +kernel
theorem dX2_allOpenOn_20 : decode cX2_allOpenOn 20 = .ok (.iconst 0, 1) := by decide +kernel
theorem dX2_allOpenOn_21 : decode cX2_allOpenOn 21 = .ok (.ireturn, 1) := by decide +kernel
theorem dX2_allOpenOn_22 : decode cX2_allOpenOn 22 = .ok (.iinc 2 1, 3) := by decide +kernel
theorem dX2_allOpenOn_25 : decode cX2_allOpenOn 25 = .ok (.goto (-23), 3) := by decide +kernel
theorem dX2_allOpenOn_28 : decode cX2_allOpenOn 28 = .ok (.iconst 1, 1) := by decide +kernel
theorem dX2_allOpenOn_29 : decode cX2_allOpenOn 29 = .ok (.ireturn, 1) := by decide +kernel
theorem dX2_seenBeside_0 : decode cX2_seenBeside 0 = .ok (.aload_n 0, 1) := by decide +kernel
theorem dX2_seenBeside_1 : decode cX2_seenBeside 1 = .ok (.iload_n 2, 1) := by decide +kernel
theorem dX2_seenBeside_2 : decode cX2_seenBeside 2 = .ok (.iload_n 1, 1) := by decide +kernel
theorem dX2_seenBeside_3 : decode cX2_seenBeside 3 = .ok (.invokevirtual 86, 3) := by decide +kernel
theorem dX2_seenBeside_6 : decode cX2_seenBeside 6 = .ok (.istore 4, 2) := by decide +kernel
theorem dX2_seenBeside_8 : decode cX2_seenBeside 8 = .ok (.iload 4, 2) := by decide +kernel
theorem dX2_seenBeside_10 : decode cX2_seenBeside 10 = .ok (.iconst (-1), 1) := by decide +kernel
theorem dX2_seenBeside_11 : decode cX2_seenBeside 11 = .ok (.if_icmp .ne 5, 3) := by decide +kernel
theorem dX2_seenBeside_14 : decode cX2_seenBeside 14 = .ok (.iconst (-1), 1) := by decide +kernel
theorem dX2_seenBeside_15 : decode cX2_seenBeside 15 = .ok (.ireturn, 1) := by decide +kernel
theorem dX2_seenBeside_16 : decode cX2_seenBeside 16 = .ok (.iload_n 3, 1) := by decide +kernel
theorem dX2_seenBeside_17 : decode cX2_seenBeside 17 = .ok (.ifCond .ne 10, 3) := by decide +kernel
theorem dX2_seenBeside_20 : decode cX2_seenBeside 20 = .ok (.iload 4, 2) := by decide +kernel
theorem dX2_seenBeside_22 : decode cX2_seenBeside 22 = .ok (.iconst 1, 1) := by decide +kernel
theorem dX2_seenBeside_23 : decode cX2_seenBeside 23 = .ok (.isub, 1) := by decide +kernel
theorem dX2_seenBeside_24 : decode cX2_seenBeside 24 = .ok (.goto 7, 3) := by decide +kernel
theorem dX2_seenBeside_27 : decode cX2_seenBeside 27 = .ok (.iload 4, 2) := by decide +kernel
theorem dX2_seenBeside_29 : decode cX2_seenBeside 29 = .ok (.iconst 1, 1) := by decide +kernel
theorem dX2_seenBeside_30 : decode cX2_seenBeside 30 = .ok (.iadd, 1) := by decide +kernel
theorem dX2_seenBeside_31 : decode cX2_seenBeside 31 = .ok (.istore 5, 2) := by decide +kernel
theorem dX2_seenBeside_33 : decode cX2_seenBeside 33 = .ok (.iload 5, 2) := by decide +kernel
theorem dX2_seenBeside_35 : decode cX2_seenBeside 35 = .ok (.ifCond .ne 6, 3) := by decide +kernel
theorem dX2_seenBeside_38 : decode cX2_seenBeside 38 = .ok (.bipush 8, 2) := by decide +kernel
theorem dX2_seenBeside_40 : decode cX2_seenBeside 40 = .ok (.ireturn, 1) := by decide +kernel
theorem dX2_seenBeside_41 : decode cX2_seenBeside 41 = .ok (.iload 5, 2) := by decide +kernel
theorem dX2_seenBeside_43 : decode cX2_seenBeside 43 = .ok (.iconst 4, 1) := by decide +kernel
theorem dX2_seenBeside_44 : decode cX2_seenBeside 44 = .ok (.if_icmp .ne 15, 3) := by decide +kernel
theorem dX2_seenBeside_47 : decode cX2_seenBeside 47 = .ok (.bipush 10, 2) := by decide +kernel
theorem dX2_seenBeside_49 : decode cX2_seenBeside 49 = .ok (.aload_n 0, 1) := by decide +kernel
theorem dX2_seenBeside_50 : decode cX2_seenBeside 50 = .ok (.getfield 25, 3) := by decide +kernel
theorem dX2_seenBeside_53 : decode cX2_seenBeside 53 = .ok (.iload_n 2, 1) := by decide +kernel
theorem dX2_seenBeside_54 : decode cX2_seenBeside 54 = .ok (.invokestatic 71, 3) := by decide +kernel
theorem dX2_seenBeside_57 : decode cX2_seenBeside 57 = .ok (.iadd, 1) := by decide +kernel
theorem dX2_seenBeside_58 : decode cX2_seenBeside 58 = .ok (.ireturn, 1) := by decide +kernel
theorem dX2_seenBeside_59 : decode cX2_seenBeside 59 = .ok (.aload_n 0, 1) := by decide +kernel
theorem dX2_seenBeside_60 : decode cX2_seenBeside 60 = .ok (.iload_n 2, 1) := by decide +kernel
theorem dX2_seenBeside_61 : decode cX2_seenBeside 61 = .ok (.iload 5, 2) := by decide +kernel
theorem dX2_seenBeside_63 : decode cX2_seenBeside 63 = .ok (.invokevirtual 79, 3) := by decide +kernel
theorem dX2_seenBeside_66 : decode cX2_seenBeside 66 = .ok (.ireturn, 1) := by decide +kernel
theorem dX2_knownMask_0 : decode cX2_knownMask 0 = .ok (.iconst 0, 1) := by decide +kernel
theorem dX2_knownMask_1 : decode cX2_knownMask 1 = .ok (.istore_n 2, 1) := by decide +kernel
theorem dX2_knownMask_2 : decode cX2_knownMask 2 = .ok (.iconst 0, 1) := by decide +kernel
theorem dX2_knownMask_3 : decode cX2_knownMask 3 = .ok (.istore_n 3, 1) := by decide +kernel
theorem dX2_knownMask_4 : decode cX2_knownMask 4 = .ok (.iload_n 3, 1) := by decide +kernel
theorem dX2_knownMask_5 : decode cX2_knownMask 5 = .ok (.aload_n 0, 1) := by decide +kernel
theorem dX2_knownMask_6 : decode cX2_knownMask 6 = .ok (.getfield 53, 3) := by decide +kernel
theorem dX2_knownMask_9 : decode cX2_knownMask 9 = .ok (.if_icmp .ge 33, 3) := by decide +kernel
theorem dX2_knownMask_12 : decode cX2_knownMask 12 = .ok (.iload_n 2, 1) := by decide +kernel
theorem dX2_knownMask_13 : decode cX2_knownMask 13 = .ok (.aload_n 0, 1) := by decide +kernel
theorem dX2_knownMask_14 : decode cX2_knownMask 14 = .ok (.iload_n 1, 1) := by decide +kernel
theorem dX2_knownMask_15 : decode cX2_knownMask 15 = .ok (.iload_n 3, 1) := by decide +kernel
theorem dX2_knownMask_16 : decode cX2_knownMask 16 = .ok (.iconst 0, 1) := by decide +kernel
theorem dX2_knownMask_17 : decode cX2_knownMask 17 = .ok (.invokevirtual 89, 3) := by decide +kernel
theorem dX2_knownMask_20 : decode cX2_knownMask 20 = .ok (.invokestatic 93, 3) := by decide +kernel
theorem dX2_knownMask_23 : decode cX2_knownMask 23 = .ok (.aload_n 0, 1) := by decide +kernel
theorem dX2_knownMask_24 : decode cX2_knownMask 24 = .ok (.iload_n 1, 1) := by decide +kernel
theorem dX2_knownMask_25 : decode cX2_knownMask 25 = .ok (.iload_n 3, 1) := by decide +kernel
theorem dX2_knownMask_26 : decode cX2_knownMask 26 = .ok (.iconst 1, 1) := by decide +kernel
theorem dX2_knownMask_27 : decode cX2_knownMask 27 = .ok (.invokevirtual 89, 3) := by decide +kernel
theorem dX2_knownMask_30 : decode cX2_knownMask 30 = .ok (.invokestatic 93, 3) := by decide +kernel
theorem dX2_knownMask_33 : decode cX2_knownMask 33 = .ok (.ior, 1) := by decide +kernel
theorem dX2_knownMask_34 : decode cX2_knownMask 34 = .ok (.ior, 1) := by decide +kernel
theorem dX2_knownMask_35 : decode cX2_knownMask 35 = .ok (.istore_n 2, 1) := by decide +kernel
theorem dX2_knownMask_36 : decode cX2_knownMask 36 = .ok (.iinc 3 1, 3) := by decide +kernel
theorem dX2_knownMask_39 : decode cX2_knownMask 39 = .ok (.goto (-35), 3) := by decide +kernel
theorem dX2_knownMask_42 : decode cX2_knownMask 42 = .ok (.iload_n 2, 1) := by decide +kernel
theorem dX2_knownMask_43 : decode cX2_knownMask 43 = .ok (.ireturn, 1) := by decide +kernel
theorem dX2_innBit_0 : decode cX2_innBit 0 = .ok (.iload_n 0, 1) := by decide +kernel
theorem dX2_innBit_1 : decode cX2_innBit 1 = .ok (.iconst 0, 1) := by decide +kernel
theorem dX2_innBit_2 : decode cX2_innBit 2 = .ok (.bipush 7, 2) := by decide +kernel
theorem dX2_innBit_4 : decode cX2_innBit 4 = .ok (.invokestatic 97, 3) := by decide +kernel
theorem dX2_innBit_7 : decode cX2_innBit 7 = .ok (.ifCond .eq 9, 3) := by decide +kernel
theorem dX2_innBit_10 : decode cX2_innBit 10 = .ok (.iconst 1, 1) := by decide +kernel
theorem dX2_innBit_11 : decode cX2_innBit 11 = .ok (.iload_n 0, 1) := by decide +kernel
theorem dX2_innBit_12 : decode cX2_innBit 12 = .ok (.ishl, 1) := by decide +kernel
theorem dX2_innBit_13 : decode cX2_innBit 13 = .ok (.goto 4, 3) := by decide +kernel
theorem dX2_innBit_16 : decode cX2_innBit 16 = .ok (.iconst 0, 1) := by decide +kernel
theorem dX2_innBit_17 : decode cX2_innBit 17 = .ok (.ireturn, 1) := by decide +kernel
theorem dX2_roadsThrough_0 : decode cX2_roadsThrough 0 = .ok (.iconst 0, 1) := by decide +kernel
theorem dX2_roadsThrough_1 : decode cX2_roadsThrough 1 = .ok (.istore_n 2, 1) := by decide +kernel
theorem dX2_roadsThrough_2 : decode cX2_roadsThrough 2 = .ok (.iconst 0, 1) := by decide +kernel
theorem dX2_roadsThrough_3 : decode cX2_roadsThrough 3 = .ok (.istore_n 3, 1) := by decide +kernel
theorem dX2_roadsThrough_4 : decode cX2_roadsThrough 4 = .ok (.iload_n 3, 1) := by decide +kernel
theorem dX2_roadsThrough_5 : decode cX2_roadsThrough 5 = .ok (.aload_n 0, 1) := by decide +kernel
theorem dX2_roadsThrough_6 : decode cX2_roadsThrough 6 = .ok (.getfield 53, 3) := by decide +kernel
theorem dX2_roadsThrough_9 : decode cX2_roadsThrough 9 = .ok (.if_icmp .ge 22, 3) := by decide +kernel
theorem dX2_roadsThrough_12 : decode cX2_roadsThrough 12 = .ok (.aload_n 0, 1) := by decide +kernel
theorem dX2_roadsThrough_13 : decode cX2_roadsThrough 13 = .ok (.iload_n 3, 1) := by decide +kernel
theorem dX2_roadsThrough_14 : decode cX2_roadsThrough 14 = .ok (.iload_n 1, 1) := by decide +kernel
theorem dX2_roadsThrough_15 : decode cX2_roadsThrough 15 = .ok (.invokevirtual 86, 3) := by decide +kernel
theorem dX2_roadsThrough_18 : decode cX2_roadsThrough 18 = .ok (.iconst (-1), 1) := by decide +kernel
theorem dX2_roadsThrough_19 : decode cX2_roadsThrough 19 = .ok (.if_icmp .eq 6, 3) := by decide +kernel
theorem dX2_roadsThrough_22 : decode cX2_roadsThrough 22 = .ok (.iinc 2 1, 3) := by decide +kernel
theorem dX2_roadsThrough_25 : decode cX2_roadsThrough 25 = .ok (.iinc 3 1, 3) := by decide +kernel
theorem dX2_roadsThrough_28 : decode cX2_roadsThrough 28 = .ok (.goto (-24), 3) := by decide +kernel
theorem dX2_roadsThrough_31 : decode cX2_roadsThrough 31 = .ok (.iload_n 2, 1) := by decide +kernel
theorem dX2_roadsThrough_32 : decode cX2_roadsThrough 32 = .ok (.ireturn, 1) := by decide +kernel
theorem dX2_leastUsedInn_0 : decode cX2_leastUsedInn 0 = .ok (.iconst 0, 1) := by decide +kernel
theorem dX2_leastUsedInn_1 : decode cX2_leastUsedInn 1 = .ok (.istore_n 2, 1) := by decide +kernel
theorem dX2_leastUsedInn_2 : decode cX2_leastUsedInn 2 = .ok (.iconst 0, 1) := by decide +kernel
theorem dX2_leastUsedInn_3 : decode cX2_leastUsedInn 3 = .ok (.istore_n 3, 1) := by decide +kernel
theorem dX2_leastUsedInn_4 : decode cX2_leastUsedInn 4 = .ok (.iload_n 3, 1) := by decide +kernel
theorem dX2_leastUsedInn_5 : decode cX2_leastUsedInn 5 = .ok (.bipush 6, 2) := by decide +kernel
theorem dX2_leastUsedInn_7 : decode cX2_leastUsedInn 7 = .ok (.if_icmp .gt 55, 3) := by decide +kernel
theorem dX2_leastUsedInn_10 : decode cX2_leastUsedInn 10 = .ok (.iconst 0, 1) := by decide +kernel
theorem dX2_leastUsedInn_11 : decode cX2_leastUsedInn 11 = .ok (.istore 4, 2) := by decide +kernel
theorem dX2_leastUsedInn_13 : decode cX2_leastUsedInn 13 = .ok (.iload 4, 2) := by decide +kernel
theorem dX2_leastUsedInn_15 : decode cX2_leastUsedInn 15 = .ok (.bipush 8, 2) := by decide +kernel
theorem dX2_leastUsedInn_17 : decode cX2_leastUsedInn 17 = .ok (.if_icmp .ge 39, 3) := by decide +kernel
theorem dX2_leastUsedInn_20 : decode cX2_leastUsedInn 20 = .ok (.aload_n 0, 1) := by decide +kernel
theorem dX2_leastUsedInn_21 : decode cX2_leastUsedInn 21 = .ok (.iload 4, 2) := by decide +kernel
theorem dX2_leastUsedInn_23 : decode cX2_leastUsedInn 23 = .ok (.invokevirtual 82, 3) := by decide +kernel
theorem dX2_leastUsedInn_26 : decode cX2_leastUsedInn 26 = .ok (.ifCond .eq 24, 3) := by decide +kernel
theorem dX2_leastUsedInn_29 : decode cX2_leastUsedInn 29 = .ok (.aload_n 0, 1) := by decide +kernel
theorem dX2_leastUsedInn_30 : decode cX2_leastUsedInn 30 = .ok (.iload 4, 2) := by decide +kernel
theorem dX2_leastUsedInn_32 : decode cX2_leastUsedInn 32 = .ok (.invokevirtual 101, 3) := by decide +kernel
theorem dX2_leastUsedInn_35 : decode cX2_leastUsedInn 35 = .ok (.iload_n 3, 1) := by decide +kernel
theorem dX2_leastUsedInn_36 : decode cX2_leastUsedInn 36 = .ok (.if_icmp .ne 14, 3) := by decide +kernel
theorem dX2_leastUsedInn_39 : decode cX2_leastUsedInn 39 = .ok (.iinc 2 1, 3) := by decide +kernel
theorem dX2_leastUsedInn_42 : decode cX2_leastUsedInn 42 = .ok (.iload_n 2, 1) := by decide +kernel
theorem dX2_leastUsedInn_43 : decode cX2_leastUsedInn 43 = .ok (.iload_n 1, 1) := by decide +kernel
theorem dX2_leastUsedInn_44 : decode cX2_leastUsedInn 44 = .ok (.if_icmp .ne 6, 3) := by decide +kernel
theorem dX2_leastUsedInn_47 : decode cX2_leastUsedInn 47 = .ok (.iload 4, 2) := by decide +kernel
theorem dX2_leastUsedInn_49 : decode cX2_leastUsedInn 49 = .ok (.ireturn, 1) := by decide +kernel
theorem dX2_leastUsedInn_50 : decode cX2_leastUsedInn 50 = .ok (.iinc 4 1, 3) := by decide +kernel
theorem dX2_leastUsedInn_53 : decode cX2_leastUsedInn 53 = .ok (.goto (-40), 3) := by decide +kernel
theorem dX2_leastUsedInn_56 : decode cX2_leastUsedInn 56 = .ok (.iinc 3 1, 3) := by decide +kernel
theorem dX2_leastUsedInn_59 : decode cX2_leastUsedInn 59 = .ok (.goto (-55), 3) := by decide +kernel
theorem dX2_leastUsedInn_62 : decode cX2_leastUsedInn 62 = .ok (.iconst (-1), 1) := by decide +kernel
theorem dX2_leastUsedInn_63 : decode cX2_leastUsedInn 63 = .ok (.ireturn, 1) := by decide +kernel
theorem dX2_ofEnvelope_0 : decode cX2_ofEnvelope 0 = .ok (.aload_n 0, 1) := by decide +kernel
theorem dX2_ofEnvelope_1 : decode cX2_ofEnvelope 1 = .ok (.getfield 28, 3) := by decide +kernel
theorem dX2_ofEnvelope_4 : decode cX2_ofEnvelope 4 = .ok (.iconst 4, 1) := by decide +kernel
theorem dX2_ofEnvelope_5 : decode cX2_ofEnvelope 5 = .ok (.iload_n 1, 1) := by decide +kernel
theorem dX2_ofEnvelope_6 : decode cX2_ofEnvelope 6 = .ok (.imul, 1) := by decide +kernel
theorem dX2_ofEnvelope_7 : decode cX2_ofEnvelope 7 = .ok (.iload_n 2, 1) := by decide +kernel
theorem dX2_ofEnvelope_8 : decode cX2_ofEnvelope 8 = .ok (.iadd, 1) := by decide +kernel
theorem dX2_ofEnvelope_9 : decode cX2_ofEnvelope 9 = .ok (.invokestatic 71, 3) := by decide +kernel
theorem dX2_ofEnvelope_12 : decode cX2_ofEnvelope 12 = .ok (.ireturn, 1) := by decide +kernel
theorem dX2_putNumber_0 : decode cX2_putNumber 0 = .ok (.aload_n 0, 1) := by decide +kernel
theorem dX2_putNumber_1 : decode cX2_putNumber 1 = .ok (.getfield 28, 3) := by decide +kernel
theorem dX2_putNumber_4 : decode cX2_putNumber 4 = .ok (.iconst 4, 1) := by decide +kernel
theorem dX2_putNumber_5 : decode cX2_putNumber 5 = .ok (.iload_n 1, 1) := by decide +kernel
theorem dX2_putNumber_6 : decode cX2_putNumber 6 = .ok (.imul, 1) := by decide +kernel
theorem dX2_putNumber_7 : decode cX2_putNumber 7 = .ok (.iload_n 2, 1) := by decide +kernel
theorem dX2_putNumber_8 : decode cX2_putNumber 8 = .ok (.iadd, 1) := by decide +kernel
theorem dX2_putNumber_9 : decode cX2_putNumber 9 = .ok (.iload_n 3, 1) := by decide +kernel
theorem dX2_putNumber_10 : decode cX2_putNumber 10 = .ok (.invokestatic 67, 3) := by decide +kernel
theorem dX2_putNumber_13 : decode cX2_putNumber 13 = .ok (.return_, 1) := by decide +kernel
theorem dX2_addLetter_0 : decode cX2_addLetter 0 = .ok (.iload_n 2, 1) := by decide +kernel
theorem dX2_addLetter_1 : decode cX2_addLetter 1 = .ok (.istore_n 3, 1) := by decide +kernel
theorem dX2_addLetter_2 : decode cX2_addLetter 2 = .ok (.iconst 3, 1) := by decide +kernel
theorem dX2_addLetter_3 : decode cX2_addLetter 3 = .ok (.istore 4, 2) := by decide +kernel
theorem dX2_addLetter_5 : decode cX2_addLetter 5 = .ok (.iload 4, 2) := by decide +kernel
theorem dX2_addLetter_7 : decode cX2_addLetter 7 = .ok (.iconst 1, 1) := by decide +kernel
theorem dX2_addLetter_8 : decode cX2_addLetter 8 = .ok (.if_icmp .lt 21, 3) := by decide +kernel
theorem dX2_addLetter_11 : decode cX2_addLetter 11 = .ok (.iload_n 3, 1) := by decide +kernel
theorem dX2_addLetter_12 : decode cX2_addLetter 12 = .ok (.aload_n 0, 1) := by decide +kernel
theorem dX2_addLetter_13 : decode cX2_addLetter 13 = .ok (.iload_n 1, 1) := by decide +kernel
theorem dX2_addLetter_14 : decode cX2_addLetter 14 = .ok (.iload 4, 2) := by decide +kernel
theorem dX2_addLetter_16 : decode cX2_addLetter 16 = .ok (.invokevirtual 104, 3) := by decide +kernel
theorem dX2_addLetter_19 : decode cX2_addLetter 19 = .ok (.invokestatic 107, 3) := by decide +kernel
theorem dX2_addLetter_22 : decode cX2_addLetter 22 = .ok (.istore_n 3, 1) := by decide +kernel
theorem dX2_addLetter_23 : decode cX2_addLetter 23 = .ok (.iinc 4 (-1), 3) := by decide +kernel
theorem dX2_addLetter_26 : decode cX2_addLetter 26 = .ok (.goto (-21), 3) := by decide +kernel
theorem dX2_addLetter_29 : decode cX2_addLetter 29 = .ok (.aload_n 0, 1) := by decide +kernel
theorem dX2_addLetter_30 : decode cX2_addLetter 30 = .ok (.iconst 0, 1) := by decide +kernel
theorem dX2_addLetter_31 : decode cX2_addLetter 31 = .ok (.invokevirtual 110, 3) := by decide +kernel
theorem dX2_addLetter_34 : decode cX2_addLetter 34 = .ok (.aload_n 0, 1) := by decide +kernel
theorem dX2_addLetter_35 : decode cX2_addLetter 35 = .ok (.iload_n 1, 1) := by decide +kernel
theorem dX2_addLetter_36 : decode cX2_addLetter 36 = .ok (.iconst 0, 1) := by decide +kernel
theorem dX2_addLetter_37 : decode cX2_addLetter 37 = .ok (.iload_n 3, 1) := by decide +kernel
theorem dX2_addLetter_38 : decode cX2_addLetter 38 = .ok (.iconst 0, 1) := by decide +kernel
theorem dX2_addLetter_39 : decode cX2_addLetter 39 = .ok (.invokevirtual 114, 3) := by decide +kernel
theorem dX2_addLetter_42 : decode cX2_addLetter 42 = .ok (.ireturn, 1) := by decide +kernel
theorem dX2_addAnswer_0 : decode cX2_addAnswer 0 = .ok (.aload_n 0, 1) := by decide +kernel
theorem dX2_addAnswer_1 : decode cX2_addAnswer 1 = .ok (.iconst 2, 1) := by decide +kernel
theorem dX2_addAnswer_2 : decode cX2_addAnswer 2 = .ok (.invokevirtual 110, 3) := by decide +kernel
theorem dX2_addAnswer_5 : decode cX2_addAnswer 5 = .ok (.aload_n 0, 1) := by decide +kernel
theorem dX2_addAnswer_6 : decode cX2_addAnswer 6 = .ok (.aload_n 0, 1) := by decide +kernel
theorem dX2_addAnswer_7 : decode cX2_addAnswer 7 = .ok (.getfield 40, 3) := by decide +kernel
theorem dX2_addAnswer_10 : decode cX2_addAnswer 10 = .ok (.iload_n 1, 1) := by decide +kernel
theorem dX2_addAnswer_11 : decode cX2_addAnswer 11 = .ok (.invokestatic 71, 3) := by decide +kernel
theorem dX2_addAnswer_14 : decode cX2_addAnswer 14 = .ok (.iconst 4, 1) := by decide +kernel
theorem dX2_addAnswer_15 : decode cX2_addAnswer 15 = .ok (.iload_n 2, 1) := by decide +kernel
theorem dX2_addAnswer_16 : decode cX2_addAnswer 16 = .ok (.iconst 1, 1) := by decide +kernel
theorem dX2_addAnswer_17 : decode cX2_addAnswer 17 = .ok (.invokevirtual 114, 3) := by decide +kernel
theorem dX2_addAnswer_20 : decode cX2_addAnswer 20 = .ok (.ireturn, 1) := by decide +kernel
theorem dX2_addEnvelope_0 : decode cX2_addEnvelope 0 = .ok (.aload_n 0, 1) := by decide +kernel
theorem dX2_addEnvelope_1 : decode cX2_addEnvelope 1 = .ok (.getfield 56, 3) := by decide +kernel
theorem dX2_addEnvelope_4 : decode cX2_addEnvelope 4 = .ok (.istore 5, 2) := by decide +kernel
theorem dX2_addEnvelope_6 : decode cX2_addEnvelope 6 = .ok (.aload_n 0, 1) := by decide +kernel
theorem dX2_addEnvelope_7 : decode cX2_addEnvelope 7 = .ok (.iload 5, 2) := by decide +kernel
theorem dX2_addEnvelope_9 : decode cX2_addEnvelope 9 = .ok (.iconst 0, 1) := by decide +kernel
theorem dX2_addEnvelope_10 : decode cX2_addEnvelope 10 = .ok (.iload_n 1, 1) := by decide +kernel
theorem dX2_addEnvelope_11 : decode cX2_addEnvelope 11 = .ok (.invokevirtual 118, 3) := by decide +kernel
theorem dX2_addEnvelope_14 : decode cX2_addEnvelope 14 = .ok (.aload_n 0, 1) := by decide +kernel
theorem dX2_addEnvelope_15 : decode cX2_addEnvelope 15 = .ok (.iload 5, 2) := by decide +kernel
theorem dX2_addEnvelope_17 : decode cX2_addEnvelope 17 = .ok (.iconst 1, 1) := by decide +kernel
theorem dX2_addEnvelope_18 : decode cX2_addEnvelope 18 = .ok (.iload_n 2, 1) := by decide +kernel
theorem dX2_addEnvelope_19 : decode cX2_addEnvelope 19 = .ok (.invokevirtual 118, 3) := by decide +kernel
theorem dX2_addEnvelope_22 : decode cX2_addEnvelope 22 = .ok (.aload_n 0, 1) := by decide +kernel
theorem dX2_addEnvelope_23 : decode cX2_addEnvelope 23 = .ok (.iload 5, 2) := by decide +kernel
theorem dX2_addEnvelope_25 : decode cX2_addEnvelope 25 = .ok (.iconst 2, 1) := by decide +kernel
theorem dX2_addEnvelope_26 : decode cX2_addEnvelope 26 = .ok (.iload_n 3, 1) := by decide +kernel
theorem dX2_addEnvelope_27 : decode cX2_addEnvelope 27 = .ok (.invokevirtual 118, 3) := by decide +kernel
theorem dX2_addEnvelope_30 : decode cX2_addEnvelope 30 = .ok (.aload_n 0, 1) := by decide +kernel
theorem dX2_addEnvelope_31 : decode cX2_addEnvelope 31 = .ok (.iload 5, 2) := by decide +kernel
theorem dX2_addEnvelope_33 : decode cX2_addEnvelope 33 = .ok (.iconst 3, 1) := by decide +kernel
theorem dX2_addEnvelope_34 : decode cX2_addEnvelope 34 = .ok (.iload 4, 2) := by decide +kernel
theorem dX2_addEnvelope_36 : decode cX2_addEnvelope 36 = .ok (.invokevirtual 118, 3) := by decide +kernel
theorem dX2_addEnvelope_39 : decode cX2_addEnvelope 39 = .ok (.aload_n 0, 1) := by decide +kernel
theorem dX2_addEnvelope_40 : decode cX2_addEnvelope 40 = .ok (.dup, 1) := by decide +kernel
theorem dX2_addEnvelope_41 : decode cX2_addEnvelope 41 = .ok (.getfield 56, 3) := by decide +kernel
theorem dX2_addEnvelope_44 : decode cX2_addEnvelope 44 = .ok (.iconst 1, 1) := by decide +kernel
theorem dX2_addEnvelope_45 : decode cX2_addEnvelope 45 = .ok (.iadd, 1) := by decide +kernel
theorem dX2_addEnvelope_46 : decode cX2_addEnvelope 46 = .ok (.putfield 56, 3) := by decide +kernel
theorem dX2_addEnvelope_49 : decode cX2_addEnvelope 49 = .ok (.iload 5, 2) := by decide +kernel
theorem dX2_addEnvelope_51 : decode cX2_addEnvelope 51 = .ok (.ireturn, 1) := by decide +kernel
theorem dX2_countUp_0 : decode cX2_countUp 0 = .ok (.aload_n 0, 1) := by decide +kernel
theorem dX2_countUp_1 : decode cX2_countUp 1 = .ok (.getfield 46, 3) := by decide +kernel
theorem dX2_countUp_4 : decode cX2_countUp 4 = .ok (.iload_n 1, 1) := by decide +kernel
theorem dX2_countUp_5 : decode cX2_countUp 5 = .ok (.aload_n 0, 1) := by decide +kernel
theorem dX2_countUp_6 : decode cX2_countUp 6 = .ok (.getfield 46, 3) := by decide +kernel
theorem dX2_countUp_9 : decode cX2_countUp 9 = .ok (.iload_n 1, 1) := by decide +kernel
theorem dX2_countUp_10 : decode cX2_countUp 10 = .ok (.invokestatic 71, 3) := by decide +kernel
theorem dX2_countUp_13 : decode cX2_countUp 13 = .ok (.iconst 1, 1) := by decide +kernel
theorem dX2_countUp_14 : decode cX2_countUp 14 = .ok (.iadd, 1) := by decide +kernel
theorem dX2_countUp_15 : decode cX2_countUp 15 = .ok (.invokestatic 67, 3) := by decide +kernel
theorem dX2_countUp_18 : decode cX2_countUp 18 = .ok (.return_, 1) := by decide +kernel
theorem dX2_letTicksPass_0 : decode cX2_letTicksPass 0 = .ok (.iconst 0, 1) := by decide +kernel
theorem dX2_letTicksPass_1 : decode cX2_letTicksPass 1 = .ok (.istore_n 2, 1) := by decide +kernel
theorem dX2_letTicksPass_2 : decode cX2_letTicksPass 2 = .ok (.iconst 0, 1) := by decide +kernel
theorem dX2_letTicksPass_3 : decode cX2_letTicksPass 3 = .ok (.istore_n 3, 1) := by decide +kernel
theorem dX2_letTicksPass_4 : decode cX2_letTicksPass 4 = .ok (.iload_n 3, 1) := by decide +kernel
theorem dX2_letTicksPass_5 : decode cX2_letTicksPass 5 = .ok (.iload_n 1, 1) := by decide +kernel
theorem dX2_letTicksPass_6 : decode cX2_letTicksPass 6 = .ok (.if_icmp .ge 43, 3) := by decide +kernel
theorem dX2_letTicksPass_9 : decode cX2_letTicksPass 9 = .ok (.iconst 0, 1) := by decide +kernel
theorem dX2_letTicksPass_10 : decode cX2_letTicksPass 10 = .ok (.istore 4, 2) := by decide +kernel
theorem dX2_letTicksPass_12 : decode cX2_letTicksPass 12 = .ok (.iload 4, 2) := by decide +kernel
theorem dX2_letTicksPass_14 : decode cX2_letTicksPass 14 = .ok (.aload_n 0, 1) := by decide +kernel
theorem dX2_letTicksPass_15 : decode cX2_letTicksPass 15 = .ok (.getfield 56, 3) := by decide +kernel
theorem dX2_letTicksPass_18 : decode cX2_letTicksPass 18 = .ok (.if_icmp .ge 21, 3) := by decide +kernel
theorem dX2_letTicksPass_21 : decode cX2_letTicksPass 21 = .ok (.aload_n 0, 1) := by decide +kernel
theorem dX2_letTicksPass_22 : decode cX2_letTicksPass 22 = .ok (.iload 4, 2) := by decide +kernel
theorem dX2_letTicksPass_24 : decode cX2_letTicksPass 24 = .ok (.invokevirtual 121, 3) := by decide +kernel
theorem dX2_letTicksPass_27 : decode cX2_letTicksPass 27 = .ok (.ifCond .eq 6, 3) := by decide +kernel
theorem dX2_letTicksPass_30 : decode cX2_letTicksPass 30 = .ok (.iinc 2 1, 3) := by decide +kernel
theorem dX2_letTicksPass_33 : decode cX2_letTicksPass 33 = .ok (.iinc 4 1, 3) := by decide +kernel
theorem dX2_letTicksPass_36 : decode cX2_letTicksPass 36 = .ok (.goto (-24), 3) := by decide +kernel
theorem dX2_letTicksPass_39 : decode cX2_letTicksPass 39 = .ok (.aload_n 0, 1) := by decide +kernel
theorem dX2_letTicksPass_40 : decode cX2_letTicksPass 40 = .ok (.invokevirtual 124, 3) := by decide +kernel
theorem dX2_letTicksPass_43 : decode cX2_letTicksPass 43 = .ok (.iinc 3 1, 3) := by decide +kernel
theorem dX2_letTicksPass_46 : decode cX2_letTicksPass 46 = .ok (.goto (-42), 3) := by decide +kernel
theorem dX2_letTicksPass_49 : decode cX2_letTicksPass 49 = .ok (.iload_n 2, 1) := by decide +kernel
theorem dX2_letTicksPass_50 : decode cX2_letTicksPass 50 = .ok (.ireturn, 1) := by decide +kernel
theorem dX2_moveOn_0 : decode cX2_moveOn 0 = .ok (.aload_n 0, 1) := by decide +kernel
theorem dX2_moveOn_1 : decode cX2_moveOn 1 = .ok (.iload_n 1, 1) := by decide +kernel
theorem dX2_moveOn_2 : decode cX2_moveOn 2 = .ok (.iconst 3, 1) := by decide +kernel
theorem dX2_moveOn_3 : decode cX2_moveOn 3 = .ok (.invokevirtual 75, 3) := by decide +kernel
theorem dX2_moveOn_6 : decode cX2_moveOn 6 = .ok (.ifCond .ne 7, 3) := by decide +kernel
theorem dX2_moveOn_9 : decode cX2_moveOn 9 = .ok (.iconst 1, 1) := by decide +kernel
theorem dX2_moveOn_10 : decode cX2_moveOn 10 = .ok (.goto 4, 3) := by decide +kernel
theorem dX2_moveOn_13 : decode cX2_moveOn 13 = .ok (.iconst (-1), 1) := by decide +kernel
theorem dX2_moveOn_14 : decode cX2_moveOn 14 = .ok (.istore_n 2, 1) := by decide +kernel
theorem dX2_moveOn_15 : decode cX2_moveOn 15 = .ok (.aload_n 0, 1) := by decide +kernel
theorem dX2_moveOn_16 : decode cX2_moveOn 16 = .ok (.iload_n 1, 1) := by decide +kernel
theorem dX2_moveOn_17 : decode cX2_moveOn 17 = .ok (.iconst 1, 1) := by decide +kernel
theorem dX2_moveOn_18 : decode cX2_moveOn 18 = .ok (.invokevirtual 75, 3) := by decide +kernel
theorem dX2_moveOn_21 : decode cX2_moveOn 21 = .ok (.iload_n 2, 1) := by decide +kernel
theorem dX2_moveOn_22 : decode cX2_moveOn 22 = .ok (.iadd, 1) := by decide +kernel
theorem dX2_moveOn_23 : decode cX2_moveOn 23 = .ok (.istore_n 3, 1) := by decide +kernel
theorem dX2_moveOn_24 : decode cX2_moveOn 24 = .ok (.aload_n 0, 1) := by decide +kernel
theorem dX2_moveOn_25 : decode cX2_moveOn 25 = .ok (.iload_n 1, 1) := by decide +kernel
theorem dX2_moveOn_26 : decode cX2_moveOn 26 = .ok (.iconst 1, 1) := by decide +kernel
theorem dX2_moveOn_27 : decode cX2_moveOn 27 = .ok (.iload_n 3, 1) := by decide +kernel
theorem dX2_moveOn_28 : decode cX2_moveOn 28 = .ok (.invokevirtual 118, 3) := by decide +kernel
theorem dX2_moveOn_31 : decode cX2_moveOn 31 = .ok (.iload_n 3, 1) := by decide +kernel
theorem dX2_moveOn_32 : decode cX2_moveOn 32 = .ok (.iconst 4, 1) := by decide +kernel
theorem dX2_moveOn_33 : decode cX2_moveOn 33 = .ok (.if_icmp .ne 10, 3) := by decide +kernel
theorem dX2_moveOn_36 : decode cX2_moveOn 36 = .ok (.aload_n 0, 1) := by decide +kernel
theorem dX2_moveOn_37 : decode cX2_moveOn 37 = .ok (.iload_n 1, 1) := by decide +kernel
theorem dX2_moveOn_38 : decode cX2_moveOn 38 = .ok (.invokevirtual 127, 3) := by decide +kernel
theorem dX2_moveOn_41 : decode cX2_moveOn 41 = .ok (.iconst 1, 1) := by decide +kernel
theorem dX2_moveOn_42 : decode cX2_moveOn 42 = .ok (.ireturn, 1) := by decide +kernel
theorem dX2_moveOn_43 : decode cX2_moveOn 43 = .ok (.iload_n 3, 1) := by decide +kernel
theorem dX2_moveOn_44 : decode cX2_moveOn 44 = .ok (.ifCond .ne 10, 3) := by decide +kernel
theorem dX2_moveOn_47 : decode cX2_moveOn 47 = .ok (.aload_n 0, 1) := by decide +kernel
theorem dX2_moveOn_48 : decode cX2_moveOn 48 = .ok (.iload_n 1, 1) := by decide +kernel
theorem dX2_moveOn_49 : decode cX2_moveOn 49 = .ok (.invokevirtual 130, 3) := by decide +kernel
theorem dX2_moveOn_52 : decode cX2_moveOn 52 = .ok (.iconst 1, 1) := by decide +kernel
theorem dX2_moveOn_53 : decode cX2_moveOn 53 = .ok (.ireturn, 1) := by decide +kernel
theorem dX2_moveOn_54 : decode cX2_moveOn 54 = .ok (.aload_n 0, 1) := by decide +kernel
theorem dX2_moveOn_55 : decode cX2_moveOn 55 = .ok (.iload_n 1, 1) := by decide +kernel
theorem dX2_moveOn_56 : decode cX2_moveOn 56 = .ok (.iload_n 3, 1) := by decide +kernel
theorem dX2_moveOn_57 : decode cX2_moveOn 57 = .ok (.invokevirtual 133, 3) := by decide +kernel
theorem dX2_moveOn_60 : decode cX2_moveOn 60 = .ok (.iconst 0, 1) := by decide +kernel
theorem dX2_moveOn_61 : decode cX2_moveOn 61 = .ok (.ireturn, 1) := by decide +kernel
theorem dX2_reachInn_0 : decode cX2_reachInn 0 = .ok (.aload_n 0, 1) := by decide +kernel
theorem dX2_reachInn_1 : decode cX2_reachInn 1 = .ok (.iload_n 1, 1) := by decide +kernel
theorem dX2_reachInn_2 : decode cX2_reachInn 2 = .ok (.iconst 0, 1) := by decide +kernel
theorem dX2_reachInn_3 : decode cX2_reachInn 3 = .ok (.invokevirtual 75, 3) := by decide +kernel
theorem dX2_reachInn_6 : decode cX2_reachInn 6 = .ok (.istore_n 3, 1) := by decide +kernel
theorem dX2_reachInn_7 : decode cX2_reachInn 7 = .ok (.aload_n 0, 1) := by decide +kernel
theorem dX2_reachInn_8 : decode cX2_reachInn 8 = .ok (.aload_n 0, 1) := by decide +kernel
theorem dX2_reachInn_9 : decode cX2_reachInn 9 = .ok (.iload_n 3, 1) := by decide +kernel
theorem dX2_reachInn_10 : decode cX2_reachInn 10 = .ok (.iload_n 2, 1) := by decide +kernel
theorem dX2_reachInn_11 : decode cX2_reachInn 11 = .ok (.invokevirtual 79, 3) := by decide +kernel
theorem dX2_reachInn_14 : decode cX2_reachInn 14 = .ok (.invokevirtual 82, 3) := by decide +kernel
theorem dX2_reachInn_17 : decode cX2_reachInn 17 = .ok (.ifCond .ne 16, 3) := by decide +kernel
theorem dX2_reachInn_20 : decode cX2_reachInn 20 = .ok (.aload_n 0, 1) := by decide +kernel
theorem dX2_reachInn_21 : decode cX2_reachInn 21 = .ok (.iconst 4, 1) := by decide +kernel
theorem dX2_reachInn_22 : decode cX2_reachInn 22 = .ok (.invokevirtual 110, 3) := by decide +kernel
theorem dX2_reachInn_25 : decode cX2_reachInn 25 = .ok (.aload_n 0, 1) := by decide +kernel
theorem dX2_reachInn_26 : decode cX2_reachInn 26 = .ok (.iload_n 1, 1) := by decide +kernel
theorem dX2_reachInn_27 : decode cX2_reachInn 27 = .ok (.iconst 1, 1) := by decide +kernel
theorem dX2_reachInn_28 : decode cX2_reachInn 28 = .ok (.iconst (-1), 1) := by decide +kernel
theorem dX2_reachInn_29 : decode cX2_reachInn 29 = .ok (.invokevirtual 118, 3) := by decide +kernel
theorem dX2_reachInn_32 : decode cX2_reachInn 32 = .ok (.return_, 1) := by decide +kernel
theorem dX2_reachInn_33 : decode cX2_reachInn 33 = .ok (.aload_n 0, 1) := by decide +kernel
theorem dX2_reachInn_34 : decode cX2_reachInn 34 = .ok (.iload_n 1, 1) := by decide +kernel
theorem dX2_reachInn_35 : decode cX2_reachInn 35 = .ok (.iconst 2, 1) := by decide +kernel
theorem dX2_reachInn_36 : decode cX2_reachInn 36 = .ok (.invokevirtual 75, 3) := by decide +kernel
theorem dX2_reachInn_39 : decode cX2_reachInn 39 = .ok (.istore 4, 2) := by decide +kernel
theorem dX2_reachInn_41 : decode cX2_reachInn 41 = .ok (.aload_n 0, 1) := by decide +kernel
theorem dX2_reachInn_42 : decode cX2_reachInn 42 = .ok (.iload_n 3, 1) := by decide +kernel
theorem dX2_reachInn_43 : decode cX2_reachInn 43 = .ok (.iload_n 2, 1) := by decide +kernel
theorem dX2_reachInn_44 : decode cX2_reachInn 44 = .ok (.invokevirtual 104, 3) := by decide +kernel
theorem dX2_reachInn_47 : decode cX2_reachInn 47 = .ok (.istore 5, 2) := by decide +kernel
theorem dX2_reachInn_49 : decode cX2_reachInn 49 = .ok (.aload_n 0, 1) := by decide +kernel
theorem dX2_reachInn_50 : decode cX2_reachInn 50 = .ok (.iload_n 1, 1) := by decide +kernel
theorem dX2_reachInn_51 : decode cX2_reachInn 51 = .ok (.iconst 3, 1) := by decide +kernel
theorem dX2_reachInn_52 : decode cX2_reachInn 52 = .ok (.invokevirtual 75, 3) := by decide +kernel
theorem dX2_reachInn_55 : decode cX2_reachInn 55 = .ok (.ifCond .ne 7, 3) := by decide +kernel
theorem dX2_reachInn_58 : decode cX2_reachInn 58 = .ok (.iconst 1, 1) := by decide +kernel
theorem dX2_reachInn_59 : decode cX2_reachInn 59 = .ok (.goto 4, 3) := by decide +kernel
theorem dX2_reachInn_62 : decode cX2_reachInn 62 = .ok (.iconst 0, 1) := by decide +kernel
theorem dX2_reachInn_63 : decode cX2_reachInn 63 = .ok (.istore 6, 2) := by decide +kernel
theorem dX2_reachInn_65 : decode cX2_reachInn 65 = .ok (.aload_n 0, 1) := by decide +kernel
theorem dX2_reachInn_66 : decode cX2_reachInn 66 = .ok (.iload_n 1, 1) := by decide +kernel
theorem dX2_reachInn_67 : decode cX2_reachInn 67 = .ok (.iconst 2, 1) := by decide +kernel
theorem dX2_reachInn_68 : decode cX2_reachInn 68 = .ok (.iload 6, 2) := by decide +kernel
theorem dX2_reachInn_70 : decode cX2_reachInn 70 = .ok (.ifCond .eq 13, 3) := by decide +kernel
theorem dX2_reachInn_73 : decode cX2_reachInn 73 = .ok (.iload 4, 2) := by decide +kernel
theorem dX2_reachInn_75 : decode cX2_reachInn 75 = .ok (.iload 5, 2) := by decide +kernel
theorem dX2_reachInn_77 : decode cX2_reachInn 77 = .ok (.invokestatic 137, 3) := by decide +kernel
theorem dX2_reachInn_80 : decode cX2_reachInn 80 = .ok (.goto 10, 3) := by decide +kernel
theorem dX2_reachInn_83 : decode cX2_reachInn 83 = .ok (.iload 4, 2) := by decide +kernel
theorem dX2_reachInn_85 : decode cX2_reachInn 85 = .ok (.iload 5, 2) := by decide +kernel
theorem dX2_reachInn_87 : decode cX2_reachInn 87 = .ok (.invokestatic 107, 3) := by decide +kernel
theorem dX2_reachInn_90 : decode cX2_reachInn 90 = .ok (.invokevirtual 118, 3) := by decide +kernel
theorem dX2_reachInn_93 : decode cX2_reachInn 93 = .ok (.return_, 1) := by decide +kernel
theorem dX2_reachHall_0 : decode cX2_reachHall 0 = .ok (.aload_n 0, 1) := by decide +kernel
theorem dX2_reachHall_1 : decode cX2_reachHall 1 = .ok (.iload_n 1, 1) := by decide +kernel
theorem dX2_reachHall_2 : decode cX2_reachHall 2 = .ok (.iconst 0, 1) := by decide +kernel
theorem dX2_reachHall_3 : decode cX2_reachHall 3 = .ok (.invokevirtual 75, 3) := by decide +kernel
theorem dX2_reachHall_6 : decode cX2_reachHall 6 = .ok (.istore_n 2, 1) := by decide +kernel
theorem dX2_reachHall_7 : decode cX2_reachHall 7 = .ok (.aload_n 0, 1) := by decide +kernel
theorem dX2_reachHall_8 : decode cX2_reachHall 8 = .ok (.getfield 25, 3) := by decide +kernel
theorem dX2_reachHall_11 : decode cX2_reachHall 11 = .ok (.iload_n 2, 1) := by decide +kernel
theorem dX2_reachHall_12 : decode cX2_reachHall 12 = .ok (.invokestatic 71, 3) := by decide +kernel
theorem dX2_reachHall_15 : decode cX2_reachHall 15 = .ok (.istore_n 3, 1) := by decide +kernel
theorem dX2_reachHall_16 : decode cX2_reachHall 16 = .ok (.aload_n 0, 1) := by decide +kernel
theorem dX2_reachHall_17 : decode cX2_reachHall 17 = .ok (.getfield 31, 3) := by decide +kernel
theorem dX2_reachHall_20 : decode cX2_reachHall 20 = .ok (.iload_n 3, 1) := by decide +kernel
theorem dX2_reachHall_21 : decode cX2_reachHall 21 = .ok (.aload_n 0, 1) := by decide +kernel
theorem dX2_reachHall_22 : decode cX2_reachHall 22 = .ok (.iload_n 1, 1) := by decide +kernel
theorem dX2_reachHall_23 : decode cX2_reachHall 23 = .ok (.iconst 2, 1) := by decide +kernel
theorem dX2_reachHall_24 : decode cX2_reachHall 24 = .ok (.invokevirtual 75, 3) := by decide +kernel
theorem dX2_reachHall_27 : decode cX2_reachHall 27 = .ok (.invokestatic 67, 3) := by decide +kernel
theorem dX2_reachHall_30 : decode cX2_reachHall 30 = .ok (.aload_n 0, 1) := by decide +kernel
theorem dX2_reachHall_31 : decode cX2_reachHall 31 = .ok (.getfield 40, 3) := by decide +kernel
theorem dX2_reachHall_34 : decode cX2_reachHall 34 = .ok (.iload_n 3, 1) := by decide +kernel
theorem dX2_reachHall_35 : decode cX2_reachHall 35 = .ok (.iload_n 2, 1) := by decide +kernel
theorem dX2_reachHall_36 : decode cX2_reachHall 36 = .ok (.invokestatic 67, 3) := by decide +kernel
theorem dX2_reachHall_39 : decode cX2_reachHall 39 = .ok (.aload_n 0, 1) := by decide +kernel
theorem dX2_reachHall_40 : decode cX2_reachHall 40 = .ok (.iconst 1, 1) := by decide +kernel
theorem dX2_reachHall_41 : decode cX2_reachHall 41 = .ok (.invokevirtual 110, 3) := by decide +kernel
theorem dX2_reachHall_44 : decode cX2_reachHall 44 = .ok (.aload_n 0, 1) := by decide +kernel
theorem dX2_reachHall_45 : decode cX2_reachHall 45 = .ok (.iload_n 1, 1) := by decide +kernel
theorem dX2_reachHall_46 : decode cX2_reachHall 46 = .ok (.iconst 1, 1) := by decide +kernel
theorem dX2_reachHall_47 : decode cX2_reachHall 47 = .ok (.iconst (-1), 1) := by decide +kernel
theorem dX2_reachHall_48 : decode cX2_reachHall 48 = .ok (.invokevirtual 118, 3) := by decide +kernel
theorem dX2_reachHall_51 : decode cX2_reachHall 51 = .ok (.return_, 1) := by decide +kernel
theorem dX2_reachTraveller_0 : decode cX2_reachTraveller 0 = .ok (.aload_n 0, 1) := by decide +kernel
theorem dX2_reachTraveller_1 : decode cX2_reachTraveller 1 = .ok (.iload_n 1, 1) := by decide +kernel
theorem dX2_reachTraveller_2 : decode cX2_reachTraveller 2 = .ok (.iconst 0, 1) := by decide +kernel
theorem dX2_reachTraveller_3 : decode cX2_reachTraveller 3 = .ok (.invokevirtual 75, 3) := by decide +kernel
theorem dX2_reachTraveller_6 : decode cX2_reachTraveller 6 = .ok (.istore_n 2, 1) := by decide +kernel
theorem dX2_reachTraveller_7 : decode cX2_reachTraveller 7 = .ok (.aload_n 0, 1) := by decide +kernel
theorem dX2_reachTraveller_8 : decode cX2_reachTraveller 8 = .ok (.iload_n 1, 1) := by decide +kernel
theorem dX2_reachTraveller_9 : decode cX2_reachTraveller 9 = .ok (.iconst 2, 1) := by decide +kernel
theorem dX2_reachTraveller_10 : decode cX2_reachTraveller 10 = .ok (.invokevirtual 75, 3) := by decide +kernel
theorem dX2_reachTraveller_13 : decode cX2_reachTraveller 13 = .ok (.istore_n 3, 1) := by decide +kernel
theorem dX2_reachTraveller_14 : decode cX2_reachTraveller 14 = .ok (.iconst 1, 1) := by decide +kernel
theorem dX2_reachTraveller_15 : decode cX2_reachTraveller 15 = .ok (.istore 4, 2) := by decide +kernel
theorem dX2_reachTraveller_17 : decode cX2_reachTraveller 17 = .ok (.iload 4, 2) := by decide +kernel
theorem dX2_reachTraveller_19 : decode cX2_reachTraveller 19 = .ok (.iconst 3, 1) := by decide +kernel
theorem dX2_reachTraveller_20 : decode cX2_reachTraveller 20 = .ok (.if_icmp .gt 21, 3) := by decide +kernel
theorem dX2_reachTraveller_23 : decode cX2_reachTraveller 23 = .ok (.iload_n 3, 1) := by decide +kernel
theorem dX2_reachTraveller_24 : decode cX2_reachTraveller 24 = .ok (.aload_n 0, 1) := by decide +kernel
theorem dX2_reachTraveller_25 : decode cX2_reachTraveller 25 = .ok (.iload_n 2, 1) := by decide +kernel
theorem dX2_reachTraveller_26 : decode cX2_reachTraveller 26 = .ok (.iload 4, 2) := by decide +kernel
theorem dX2_reachTraveller_28 : decode cX2_reachTraveller 28 = .ok (.invokevirtual 104, 3) := by decide +kernel
theorem dX2_reachTraveller_31 : decode cX2_reachTraveller 31 = .ok (.invokestatic 137, 3) := by decide +kernel
theorem dX2_reachTraveller_34 : decode cX2_reachTraveller 34 = .ok (.istore_n 3, 1) := by decide +kernel
theorem dX2_reachTraveller_35 : decode cX2_reachTraveller 35 = .ok (.iinc 4 1, 3) := by decide +kernel
theorem dX2_reachTraveller_38 : decode cX2_reachTraveller 38 = .ok (.goto (-21), 3) := by decide +kernel
theorem dX2_reachTraveller_41 : decode cX2_reachTraveller 41 = .ok (.aload_n 0, 1) := by decide +kernel
theorem dX2_reachTraveller_42 : decode cX2_reachTraveller 42 = .ok (.iload_n 3, 1) := by decide +kernel
theorem dX2_reachTraveller_43 : decode cX2_reachTraveller 43 = .ok (.putfield 43, 3) := by decide +kernel
theorem dX2_reachTraveller_46 : decode cX2_reachTraveller 46 = .ok (.aload_n 0, 1) := by decide +kernel
theorem dX2_reachTraveller_47 : decode cX2_reachTraveller 47 = .ok (.iconst 3, 1) := by decide +kernel
theorem dX2_reachTraveller_48 : decode cX2_reachTraveller 48 = .ok (.invokevirtual 110, 3) := by decide +kernel
theorem dX2_reachTraveller_51 : decode cX2_reachTraveller 51 = .ok (.aload_n 0, 1) := by decide +kernel
theorem dX2_reachTraveller_52 : decode cX2_reachTraveller 52 = .ok (.iload_n 1, 1) := by decide +kernel
theorem dX2_reachTraveller_53 : decode cX2_reachTraveller 53 = .ok (.iconst 1, 1) := by decide +kernel
theorem dX2_reachTraveller_54 : decode cX2_reachTraveller 54 = .ok (.iconst (-1), 1) := by decide +kernel
theorem dX2_reachTraveller_55 : decode cX2_reachTraveller 55 = .ok (.invokevirtual 118, 3) := by decide +kernel
theorem dX2_reachTraveller_58 : decode cX2_reachTraveller 58 = .ok (.return_, 1) := by decide +kernel
theorem dX2_takeOutGone_0 : decode cX2_takeOutGone 0 = .ok (.iconst 0, 1) := by decide +kernel
theorem dX2_takeOutGone_1 : decode cX2_takeOutGone 1 = .ok (.istore_n 1, 1) := by decide +kernel
theorem dX2_takeOutGone_2 : decode cX2_takeOutGone 2 = .ok (.iconst 0, 1) := by decide +kernel
theorem dX2_takeOutGone_3 : decode cX2_takeOutGone 3 = .ok (.istore_n 2, 1) := by decide +kernel
theorem dX2_takeOutGone_4 : decode cX2_takeOutGone 4 = .ok (.iload_n 2, 1) := by decide +kernel
theorem dX2_takeOutGone_5 : decode cX2_takeOutGone 5 = .ok (.aload_n 0, 1) := by decide +kernel
theorem dX2_takeOutGone_6 : decode cX2_takeOutGone 6 = .ok (.getfield 56, 3) := by decide +kernel
theorem dX2_takeOutGone_9 : decode cX2_takeOutGone 9 = .ok (.if_icmp .ge 47, 3) := by decide +kernel
theorem dX2_takeOutGone_12 : decode cX2_takeOutGone 12 = .ok (.aload_n 0, 1) := by decide +kernel
theorem dX2_takeOutGone_13 : decode cX2_takeOutGone 13 = .ok (.iload_n 2, 1) := by decide +kernel
theorem dX2_takeOutGone_14 : decode cX2_takeOutGone 14 = .ok (.iconst 1, 1) := by decide +kernel
theorem dX2_takeOutGone_15 : decode cX2_takeOutGone 15 = .ok (.invokevirtual 75, 3) := by decide +kernel
theorem dX2_takeOutGone_18 : decode cX2_takeOutGone 18 = .ok (.iconst (-1), 1) := by decide +kernel
theorem dX2_takeOutGone_19 : decode cX2_takeOutGone 19 = .ok (.if_icmp .eq 31, 3) := by decide +kernel
theorem dX2_takeOutGone_22 : decode cX2_takeOutGone 22 = .ok (.iconst 0, 1) := by decide +kernel
theorem dX2_takeOutGone_23 : decode cX2_takeOutGone 23 = .ok (.istore_n 3, 1) := by decide +kernel
theorem dX2_takeOutGone_24 : decode cX2_takeOutGone 24 = .ok (.iload_n 3, 1) := by decide +kernel
theorem dX2_takeOutGone_25 : decode cX2_takeOutGone 25 = .ok (.iconst 4, 1) := by decide +kernel
theorem dX2_takeOutGone_26 : decode cX2_takeOutGone 26 = .ok (.if_icmp .ge 21, 3) := by decide +kernel
theorem dX2_takeOutGone_29 : decode cX2_takeOutGone 29 = .ok (.aload_n 0, 1) := by decide +kernel
theorem dX2_takeOutGone_30 : decode cX2_takeOutGone 30 = .ok (.iload_n 1, 1) := by decide +kernel
theorem dX2_takeOutGone_31 : decode cX2_takeOutGone 31 = .ok (.iload_n 3, 1) := by decide +kernel
theorem dX2_takeOutGone_32 : decode cX2_takeOutGone 32 = .ok (.aload_n 0, 1) := by decide +kernel
theorem dX2_takeOutGone_33 : decode cX2_takeOutGone 33 = .ok (.iload_n 2, 1) := by decide +kernel
theorem dX2_takeOutGone_34 : decode cX2_takeOutGone 34 = .ok (.iload_n 3, 1) := by decide +kernel
theorem dX2_takeOutGone_35 : decode cX2_takeOutGone 35 = .ok (.invokevirtual 75, 3) := by decide +kernel
theorem dX2_takeOutGone_38 : decode cX2_takeOutGone 38 = .ok (.invokevirtual 118, 3) := by decide +kernel
theorem dX2_takeOutGone_41 : decode cX2_takeOutGone 41 = .ok (.iinc 3 1, 3) := by decide +kernel
theorem dX2_takeOutGone_44 : decode cX2_takeOutGone 44 = .ok (.goto (-20), 3) := by decide +kernel
theorem dX2_takeOutGone_47 : decode cX2_takeOutGone 47 = .ok (.iinc 1 1, 3) := by decide +kernel
theorem dX2_takeOutGone_50 : decode cX2_takeOutGone 50 = .ok (.iinc 2 1, 3) := by decide +kernel
theorem dX2_takeOutGone_53 : decode cX2_takeOutGone 53 = .ok (.goto (-49), 3) := by decide +kernel
theorem dX2_takeOutGone_56 : decode cX2_takeOutGone 56 = .ok (.aload_n 0, 1) := by decide +kernel
theorem dX2_takeOutGone_57 : decode cX2_takeOutGone 57 = .ok (.iload_n 1, 1) := by decide +kernel
theorem dX2_takeOutGone_58 : decode cX2_takeOutGone 58 = .ok (.putfield 56, 3) := by decide +kernel
theorem dX2_takeOutGone_61 : decode cX2_takeOutGone 61 = .ok (.return_, 1) := by decide +kernel
theorem dX2_lostWithout_0 : decode cX2_lostWithout 0 = .ok (.iconst 0, 1) := by decide +kernel
theorem dX2_lostWithout_1 : decode cX2_lostWithout 1 = .ok (.istore_n 2, 1) := by decide +kernel
theorem dX2_lostWithout_2 : decode cX2_lostWithout 2 = .ok (.iconst 0, 1) := by decide +kernel
theorem dX2_lostWithout_3 : decode cX2_lostWithout 3 = .ok (.istore_n 3, 1) := by decide +kernel
theorem dX2_lostWithout_4 : decode cX2_lostWithout 4 = .ok (.iload_n 3, 1) := by decide +kernel
theorem dX2_lostWithout_5 : decode cX2_lostWithout 5 = .ok (.aload_n 0, 1) := by decide +kernel
theorem dX2_lostWithout_6 : decode cX2_lostWithout 6 = .ok (.getfield 56, 3) := by decide +kernel
theorem dX2_lostWithout_9 : decode cX2_lostWithout 9 = .ok (.if_icmp .ge 31, 3) := by decide +kernel
theorem dX2_lostWithout_12 : decode cX2_lostWithout 12 = .ok (.aload_n 0, 1) := by decide +kernel
theorem dX2_lostWithout_13 : decode cX2_lostWithout 13 = .ok (.iload_n 3, 1) := by decide +kernel
theorem dX2_lostWithout_14 : decode cX2_lostWithout 14 = .ok (.aload_n 0, 1) := by decide +kernel
theorem dX2_lostWithout_15 : decode cX2_lostWithout 15 = .ok (.getfield 9, 3) := by decide +kernel
theorem dX2_lostWithout_18 : decode cX2_lostWithout 18 = .ok (.iconst 1, 1) := by decide +kernel
theorem dX2_lostWithout_19 : decode cX2_lostWithout 19 = .ok (.iload_n 1, 1) := by decide +kernel
theorem dX2_lostWithout_20 : decode cX2_lostWithout 20 = .ok (.ishl, 1) := by decide +kernel
theorem dX2_lostWithout_21 : decode cX2_lostWithout 21 = .ok (.iconst (-1), 1) := by decide +kernel
theorem dX2_lostWithout_22 : decode cX2_lostWithout 22 = .ok (.ixor, 1) := by decide +kernel
theorem dX2_lostWithout_23 : decode cX2_lostWithout 23 = .ok (.iand, 1) := by decide +kernel
theorem dX2_lostWithout_24 : decode cX2_lostWithout 24 = .ok (.invokevirtual 140, 3) := by decide +kernel
theorem dX2_lostWithout_27 : decode cX2_lostWithout 27 = .ok (.iconst (-1), 1) := by decide +kernel
theorem dX2_lostWithout_28 : decode cX2_lostWithout 28 = .ok (.if_icmp .ne 6, 3) := by decide +kernel
theorem dX2_lostWithout_31 : decode cX2_lostWithout 31 = .ok (.iinc 2 1, 3) := by decide +kernel
theorem dX2_lostWithout_34 : decode cX2_lostWithout 34 = .ok (.iinc 3 1, 3) := by decide +kernel
theorem dX2_lostWithout_37 : decode cX2_lostWithout 37 = .ok (.goto (-33), 3) := by decide +kernel
theorem dX2_lostWithout_40 : decode cX2_lostWithout 40 = .ok (.iload_n 2, 1) := by decide +kernel
theorem dX2_lostWithout_41 : decode cX2_lostWithout 41 = .ok (.ireturn, 1) := by decide +kernel
theorem dX2_ticksLeft_0 : decode cX2_ticksLeft 0 = .ok (.aload_n 0, 1) := by decide +kernel
theorem dX2_ticksLeft_1 : decode cX2_ticksLeft 1 = .ok (.iload_n 1, 1) := by decide +kernel
theorem dX2_ticksLeft_2 : decode cX2_ticksLeft 2 = .ok (.iconst 0, 1) := by decide +kernel
theorem dX2_ticksLeft_3 : decode cX2_ticksLeft 3 = .ok (.invokevirtual 75, 3) := by decide +kernel
theorem dX2_ticksLeft_6 : decode cX2_ticksLeft 6 = .ok (.istore_n 3, 1) := by decide +kernel
theorem dX2_ticksLeft_7 : decode cX2_ticksLeft 7 = .ok (.aload_n 0, 1) := by decide +kernel
theorem dX2_ticksLeft_8 : decode cX2_ticksLeft 8 = .ok (.iload_n 1, 1) := by decide +kernel
theorem dX2_ticksLeft_9 : decode cX2_ticksLeft 9 = .ok (.iconst 1, 1) := by decide +kernel
theorem dX2_ticksLeft_10 : decode cX2_ticksLeft 10 = .ok (.invokevirtual 75, 3) := by decide +kernel
theorem dX2_ticksLeft_13 : decode cX2_ticksLeft 13 = .ok (.istore 4, 2) := by decide +kernel
theorem dX2_ticksLeft_15 : decode cX2_ticksLeft 15 = .ok (.aload_n 0, 1) := by decide +kernel
theorem dX2_ticksLeft_16 : decode cX2_ticksLeft 16 = .ok (.iload_n 1, 1) := by decide +kernel
theorem dX2_ticksLeft_17 : decode cX2_ticksLeft 17 = .ok (.iconst 3, 1) := by decide +kernel
theorem dX2_ticksLeft_18 : decode cX2_ticksLeft 18 = .ok (.invokevirtual 75, 3) := by decide +kernel
theorem dX2_ticksLeft_21 : decode cX2_ticksLeft 21 = .ok (.ifCond .ne 7, 3) := by decide +kernel
theorem dX2_ticksLeft_24 : decode cX2_ticksLeft 24 = .ok (.iconst 1, 1) := by decide +kernel
theorem dX2_ticksLeft_25 : decode cX2_ticksLeft 25 = .ok (.goto 4, 3) := by decide +kernel
theorem dX2_ticksLeft_28 : decode cX2_ticksLeft 28 = .ok (.iconst 0, 1) := by decide +kernel
theorem dX2_ticksLeft_29 : decode cX2_ticksLeft 29 = .ok (.istore 5, 2) := by decide +kernel
theorem dX2_ticksLeft_31 : decode cX2_ticksLeft 31 = .ok (.iconst 1, 1) := by decide +kernel
theorem dX2_ticksLeft_32 : decode cX2_ticksLeft 32 = .ok (.istore 6, 2) := by decide +kernel
theorem dX2_ticksLeft_34 : decode cX2_ticksLeft 34 = .ok (.iload 6, 2) := by decide +kernel
theorem dX2_ticksLeft_36 : decode cX2_ticksLeft 36 = .ok (.iconst 3, 1) := by decide +kernel
theorem dX2_ticksLeft_37 : decode cX2_ticksLeft 37 = .ok (.if_icmp .gt 64, 3) := by decide +kernel
theorem dX2_ticksLeft_40 : decode cX2_ticksLeft 40 = .ok (.iload 5, 2) := by decide +kernel
theorem dX2_ticksLeft_42 : decode cX2_ticksLeft 42 = .ok (.ifCond .eq 18, 3) := by decide +kernel
theorem dX2_ticksLeft_45 : decode cX2_ticksLeft 45 = .ok (.iload 6, 2) := by decide +kernel
theorem dX2_ticksLeft_47 : decode cX2_ticksLeft 47 = .ok (.iload 4, 2) := by decide +kernel
theorem dX2_ticksLeft_49 : decode cX2_ticksLeft 49 = .ok (.if_icmp .le 7, 3) := by decide +kernel
theorem dX2_ticksLeft_52 : decode cX2_ticksLeft 52 = .ok (.iconst 1, 1) := by decide +kernel
theorem dX2_ticksLeft_53 : decode cX2_ticksLeft 53 = .ok (.goto 19, 3) := by decide +kernel
theorem dX2_ticksLeft_56 : decode cX2_ticksLeft 56 = .ok (.iconst 0, 1) := by decide +kernel
theorem dX2_ticksLeft_57 : decode cX2_ticksLeft 57 = .ok (.goto 15, 3) := by decide +kernel
theorem dX2_ticksLeft_60 : decode cX2_ticksLeft 60 = .ok (.iload 6, 2) := by decide +kernel
theorem dX2_ticksLeft_62 : decode cX2_ticksLeft 62 = .ok (.iload 4, 2) := by decide +kernel
theorem dX2_ticksLeft_64 : decode cX2_ticksLeft 64 = .ok (.if_icmp .ge 7, 3) := by decide +kernel
theorem dX2_ticksLeft_67 : decode cX2_ticksLeft 67 = .ok (.iconst 1, 1) := by decide +kernel
theorem dX2_ticksLeft_68 : decode cX2_ticksLeft 68 = .ok (.goto 4, 3) := by decide +kernel
theorem dX2_ticksLeft_71 : decode cX2_ticksLeft 71 = .ok (.iconst 0, 1) := by decide +kernel
theorem dX2_ticksLeft_72 : decode cX2_ticksLeft 72 = .ok (.istore 7, 2) := by decide +kernel
theorem dX2_ticksLeft_74 : decode cX2_ticksLeft 74 = .ok (.iload 7, 2) := by decide +kernel
theorem dX2_ticksLeft_76 : decode cX2_ticksLeft 76 = .ok (.ifCond .eq 19, 3) := by decide +kernel
theorem dX2_ticksLeft_79 : decode cX2_ticksLeft 79 = .ok (.iload_n 2, 1) := by decide +kernel
theorem dX2_ticksLeft_80 : decode cX2_ticksLeft 80 = .ok (.aload_n 0, 1) := by decide +kernel
theorem dX2_ticksLeft_81 : decode cX2_ticksLeft 81 = .ok (.iload_n 3, 1) := by decide +kernel
theorem dX2_ticksLeft_82 : decode cX2_ticksLeft 82 = .ok (.iload 6, 2) := by decide +kernel
theorem dX2_ticksLeft_84 : decode cX2_ticksLeft 84 = .ok (.invokevirtual 79, 3) := by decide +kernel
theorem dX2_ticksLeft_87 : decode cX2_ticksLeft 87 = .ok (.invokestatic 59, 3) := by decide +kernel
theorem dX2_ticksLeft_90 : decode cX2_ticksLeft 90 = .ok (.ifCond .ne 5, 3) := by decide +kernel
theorem dX2_ticksLeft_93 : decode cX2_ticksLeft 93 = .ok (.iconst (-1), 1) := by decide +kernel
theorem dX2_ticksLeft_94 : decode cX2_ticksLeft 94 = .ok (.ireturn, 1) := by decide +kernel
theorem dX2_ticksLeft_95 : decode cX2_ticksLeft 95 = .ok (.iinc 6 1, 3) := by decide +kernel
theorem dX2_ticksLeft_98 : decode cX2_ticksLeft 98 = .ok (.goto (-64), 3) := by decide +kernel
theorem dX2_ticksLeft_101 : decode cX2_ticksLeft 101 = .ok (.iload 5, 2) := by decide +kernel
theorem dX2_ticksLeft_103 : decode cX2_ticksLeft 103 = .ok (.ifCond .eq 10, 3) := by decide +kernel
theorem dX2_ticksLeft_106 : decode cX2_ticksLeft 106 = .ok (.iconst 4, 1) := by decide +kernel
theorem dX2_ticksLeft_107 : decode cX2_ticksLeft 107 = .ok (.iload 4, 2) := by decide +kernel
theorem dX2_ticksLeft_109 : decode cX2_ticksLeft 109 = .ok (.isub, 1) := by decide +kernel
theorem dX2_ticksLeft_110 : decode cX2_ticksLeft 110 = .ok (.goto 5, 3) := by decide +kernel
theorem dX2_ticksLeft_113 : decode cX2_ticksLeft 113 = .ok (.iload 4, 2) := by decide +kernel
theorem dX2_ticksLeft_115 : decode cX2_ticksLeft 115 = .ok (.ireturn, 1) := by decide +kernel
