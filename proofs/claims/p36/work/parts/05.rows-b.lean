theorem dX3_init_0 : decode cX3_init 0 = .ok (.aload_n 0, 1) := by decide +kernel
theorem dX3_init_1 : decode cX3_init 1 = .ok (.invokespecial 1, 3) := by decide +kernel
theorem dX3_init_4 : decode cX3_init 4 = .ok (.aload_n 0, 1) := by decide +kernel
theorem dX3_init_5 : decode cX3_init 5 = .ok (.new 7, 3) := by decide +kernel
theorem dX3_init_8 : decode cX3_init 8 = .ok (.dup, 1) := by decide +kernel
theorem dX3_init_9 : decode cX3_init 9 = .ok (.invokespecial 9, 3) := by decide +kernel
theorem dX3_init_12 : decode cX3_init 12 = .ok (.putfield 10, 3) := by decide +kernel
theorem dX3_init_15 : decode cX3_init 15 = .ok (.aload_n 0, 1) := by decide +kernel
theorem dX3_init_16 : decode cX3_init 16 = .ok (.new 16, 3) := by decide +kernel
theorem dX3_init_19 : decode cX3_init 19 = .ok (.dup, 1) := by decide +kernel
theorem dX3_init_20 : decode cX3_init 20 = .ok (.invokespecial 18, 3) := by decide +kernel
theorem dX3_init_23 : decode cX3_init 23 = .ok (.putfield 19, 3) := by decide +kernel
theorem dX3_init_26 : decode cX3_init 26 = .ok (.aload_n 0, 1) := by decide +kernel
theorem dX3_init_27 : decode cX3_init 27 = .ok (.new 23, 3) := by decide +kernel
theorem dX3_init_30 : decode cX3_init 30 = .ok (.dup, 1) := by decide +kernel
theorem dX3_init_31 : decode cX3_init 31 = .ok (.invokespecial 25, 3) := by decide +kernel
theorem dX3_init_34 : decode cX3_init 34 = .ok (.putfield 26, 3) := by decide +kernel
theorem dX3_init_37 : decode cX3_init 37 = .ok (.return_, 1) := by decide +kernel
theorem dX3_setOpen_0 : decode cX3_setOpen 0 = .ok (.iload_n 1, 1) := by decide +kernel
theorem dX3_setOpen_1 : decode cX3_setOpen 1 = .ok (.invokestatic 30, 3) := by decide +kernel
theorem dX3_setOpen_4 : decode cX3_setOpen 4 = .ok (.invokestatic 34, 3) := by decide +kernel
theorem dX3_setOpen_7 : decode cX3_setOpen 7 = .ok (.aload_n 0, 1) := by decide +kernel
theorem dX3_setOpen_8 : decode cX3_setOpen 8 = .ok (.getfield 19, 3) := by decide +kernel
theorem dX3_setOpen_11 : decode cX3_setOpen 11 = .ok (.aload_n 0, 1) := by decide +kernel
theorem dX3_setOpen_12 : decode cX3_setOpen 12 = .ok (.getfield 10, 3) := by decide +kernel
theorem dX3_setOpen_15 : decode cX3_setOpen 15 = .ok (.invokevirtual 38, 3) := by decide +kernel
theorem dX3_setOpen_18 : decode cX3_setOpen 18 = .ok (.aload_n 0, 1) := by decide +kernel
theorem dX3_setOpen_19 : decode cX3_setOpen 19 = .ok (.getfield 10, 3) := by decide +kernel
theorem dX3_setOpen_22 : decode cX3_setOpen 22 = .ok (.iload_n 1, 1) := by decide +kernel
theorem dX3_setOpen_23 : decode cX3_setOpen 23 = .ok (.invokevirtual 42, 3) := by decide +kernel
theorem dX3_setOpen_26 : decode cX3_setOpen 26 = .ok (.istore_n 3, 1) := by decide +kernel
theorem dX3_setOpen_27 : decode cX3_setOpen 27 = .ok (.aload_n 0, 1) := by decide +kernel
theorem dX3_setOpen_28 : decode cX3_setOpen 28 = .ok (.getfield 10, 3) := by decide +kernel
theorem dX3_setOpen_31 : decode cX3_setOpen 31 = .ok (.iload_n 1, 1) := by decide +kernel
theorem dX3_setOpen_32 : decode cX3_setOpen 32 = .ok (.iload_n 2, 1) := by decide +kernel
theorem dX3_setOpen_33 : decode cX3_setOpen 33 = .ok (.invokevirtual 46, 3) := by decide +kernel
theorem dX3_setOpen_36 : decode cX3_setOpen 36 = .ok (.iload_n 3, 1) := by decide +kernel
theorem dX3_setOpen_37 : decode cX3_setOpen 37 = .ok (.ireturn, 1) := by decide +kernel
theorem dX3_setKey_0 : decode cX3_setKey 0 = .ok (.iload_n 1, 1) := by decide +kernel
theorem dX3_setKey_1 : decode cX3_setKey 1 = .ok (.iload_n 2, 1) := by decide +kernel
theorem dX3_setKey_2 : decode cX3_setKey 2 = .ok (.invokestatic 50, 3) := by decide +kernel
theorem dX3_setKey_5 : decode cX3_setKey 5 = .ok (.invokestatic 34, 3) := by decide +kernel
theorem dX3_setKey_8 : decode cX3_setKey 8 = .ok (.aload_n 0, 1) := by decide +kernel
theorem dX3_setKey_9 : decode cX3_setKey 9 = .ok (.getfield 19, 3) := by decide +kernel
theorem dX3_setKey_12 : decode cX3_setKey 12 = .ok (.aload_n 0, 1) := by decide +kernel
theorem dX3_setKey_13 : decode cX3_setKey 13 = .ok (.getfield 10, 3) := by decide +kernel
theorem dX3_setKey_16 : decode cX3_setKey 16 = .ok (.invokevirtual 38, 3) := by decide +kernel
theorem dX3_setKey_19 : decode cX3_setKey 19 = .ok (.aload_n 0, 1) := by decide +kernel
theorem dX3_setKey_20 : decode cX3_setKey 20 = .ok (.getfield 10, 3) := by decide +kernel
theorem dX3_setKey_23 : decode cX3_setKey 23 = .ok (.getfield 54, 3) := by decide +kernel
theorem dX3_setKey_26 : decode cX3_setKey 26 = .ok (.iload_n 1, 1) := by decide +kernel
theorem dX3_setKey_27 : decode cX3_setKey 27 = .ok (.invokestatic 58, 3) := by decide +kernel
theorem dX3_setKey_30 : decode cX3_setKey 30 = .ok (.istore_n 3, 1) := by decide +kernel
theorem dX3_setKey_31 : decode cX3_setKey 31 = .ok (.aload_n 0, 1) := by decide +kernel
theorem dX3_setKey_32 : decode cX3_setKey 32 = .ok (.getfield 10, 3) := by decide +kernel
theorem dX3_setKey_35 : decode cX3_setKey 35 = .ok (.getfield 54, 3) := by decide +kernel
theorem dX3_setKey_38 : decode cX3_setKey 38 = .ok (.iload_n 1, 1) := by decide +kernel
theorem dX3_setKey_39 : decode cX3_setKey 39 = .ok (.iload_n 2, 1) := by decide +kernel
theorem dX3_setKey_40 : decode cX3_setKey 40 = .ok (.invokestatic 62, 3) := by decide +kernel
theorem dX3_setKey_43 : decode cX3_setKey 43 = .ok (.iload_n 3, 1) := by decide +kernel
theorem dX3_setKey_44 : decode cX3_setKey 44 = .ok (.ireturn, 1) := by decide +kernel
theorem dX3_isOpen_0 : decode cX3_isOpen 0 = .ok (.iload_n 1, 1) := by decide +kernel
theorem dX3_isOpen_1 : decode cX3_isOpen 1 = .ok (.invokestatic 30, 3) := by decide +kernel
theorem dX3_isOpen_4 : decode cX3_isOpen 4 = .ok (.invokestatic 34, 3) := by decide +kernel
theorem dX3_isOpen_7 : decode cX3_isOpen 7 = .ok (.aload_n 0, 1) := by decide +kernel
theorem dX3_isOpen_8 : decode cX3_isOpen 8 = .ok (.getfield 10, 3) := by decide +kernel
theorem dX3_isOpen_11 : decode cX3_isOpen 11 = .ok (.iload_n 1, 1) := by decide +kernel
theorem dX3_isOpen_12 : decode cX3_isOpen 12 = .ok (.invokevirtual 42, 3) := by decide +kernel
theorem dX3_isOpen_15 : decode cX3_isOpen 15 = .ok (.ireturn, 1) := by decide +kernel
theorem dX3_cover_0 : decode cX3_cover 0 = .ok (.iload_n 1, 1) := by decide +kernel
theorem dX3_cover_1 : decode cX3_cover 1 = .ok (.iload_n 2, 1) := by decide +kernel
theorem dX3_cover_2 : decode cX3_cover 2 = .ok (.invokestatic 50, 3) := by decide +kernel
theorem dX3_cover_5 : decode cX3_cover 5 = .ok (.invokestatic 34, 3) := by decide +kernel
theorem dX3_cover_8 : decode cX3_cover 8 = .ok (.iload_n 2, 1) := by decide +kernel
theorem dX3_cover_9 : decode cX3_cover 9 = .ok (.aload_n 0, 1) := by decide +kernel
theorem dX3_cover_10 : decode cX3_cover 10 = .ok (.getfield 10, 3) := by decide +kernel
theorem dX3_cover_13 : decode cX3_cover 13 = .ok (.getfield 54, 3) := by decide +kernel
theorem dX3_cover_16 : decode cX3_cover 16 = .ok (.iload_n 1, 1) := by decide +kernel
theorem dX3_cover_17 : decode cX3_cover 17 = .ok (.invokestatic 58, 3) := by decide +kernel
theorem dX3_cover_20 : decode cX3_cover 20 = .ok (.invokestatic 66, 3) := by decide +kernel
theorem dX3_cover_23 : decode cX3_cover 23 = .ok (.ireturn, 1) := by decide +kernel
theorem dX3_uncover_0 : decode cX3_uncover 0 = .ok (.iload_n 1, 1) := by decide +kernel
theorem dX3_uncover_1 : decode cX3_uncover 1 = .ok (.iload_n 2, 1) := by decide +kernel
theorem dX3_uncover_2 : decode cX3_uncover 2 = .ok (.invokestatic 50, 3) := by decide +kernel
theorem dX3_uncover_5 : decode cX3_uncover 5 = .ok (.invokestatic 34, 3) := by decide +kernel
theorem dX3_uncover_8 : decode cX3_uncover 8 = .ok (.iload_n 2, 1) := by decide +kernel
theorem dX3_uncover_9 : decode cX3_uncover 9 = .ok (.aload_n 0, 1) := by decide +kernel
theorem dX3_uncover_10 : decode cX3_uncover 10 = .ok (.getfield 10, 3) := by decide +kernel
theorem dX3_uncover_13 : decode cX3_uncover 13 = .ok (.getfield 54, 3) := by decide +kernel
theorem dX3_uncover_16 : decode cX3_uncover 16 = .ok (.iload_n 1, 1) := by decide +kernel
theorem dX3_uncover_17 : decode cX3_uncover 17 = .ok (.invokestatic 58, 3) := by decide +kernel
theorem dX3_uncover_20 : decode cX3_uncover 20 = .ok (.invokestatic 69, 3) := by decide +kernel
theorem dX3_uncover_23 : decode cX3_uncover 23 = .ok (.ireturn, 1) := by decide +kernel
theorem dX3_lay_0 : decode cX3_lay 0 = .ok (.aload_n 0, 1) := by decide +kernel
theorem dX3_lay_1 : decode cX3_lay 1 = .ok (.iload_n 1, 1) := by decide +kernel
theorem dX3_lay_2 : decode cX3_lay 2 = .ok (.iload_n 2, 1) := by decide +kernel
theorem dX3_lay_3 : decode cX3_lay 3 = .ok (.iload_n 3, 1) := by decide +kernel
theorem dX3_lay_4 : decode cX3_lay 4 = .ok (.iload 4, 2) := by decide +kernel
theorem dX3_lay_6 : decode cX3_lay 6 = .ok (.invokevirtual 72, 3) := by decide +kernel
theorem dX3_lay_9 : decode cX3_lay 9 = .ok (.invokestatic 34, 3) := by decide +kernel
theorem dX3_lay_12 : decode cX3_lay 12 = .ok (.aload_n 0, 1) := by decide +kernel
theorem dX3_lay_13 : decode cX3_lay 13 = .ok (.getfield 19, 3) := by decide +kernel
theorem dX3_lay_16 : decode cX3_lay 16 = .ok (.aload_n 0, 1) := by decide +kernel
theorem dX3_lay_17 : decode cX3_lay 17 = .ok (.getfield 10, 3) := by decide +kernel
theorem dX3_lay_20 : decode cX3_lay 20 = .ok (.invokevirtual 38, 3) := by decide +kernel
theorem dX3_lay_23 : decode cX3_lay 23 = .ok (.aload_n 0, 1) := by decide +kernel
theorem dX3_lay_24 : decode cX3_lay 24 = .ok (.getfield 10, 3) := by decide +kernel
theorem dX3_lay_27 : decode cX3_lay 27 = .ok (.iload_n 1, 1) := by decide +kernel
theorem dX3_lay_28 : decode cX3_lay 28 = .ok (.iload_n 2, 1) := by decide +kernel
theorem dX3_lay_29 : decode cX3_lay 29 = .ok (.iload_n 3, 1) := by decide +kernel
theorem dX3_lay_30 : decode cX3_lay 30 = .ok (.iload 4, 2) := by decide +kernel
theorem dX3_lay_32 : decode cX3_lay 32 = .ok (.invokevirtual 76, 3) := by decide +kernel
theorem dX3_lay_35 : decode cX3_lay 35 = .ok (.ireturn, 1) := by decide +kernel
theorem dX3_takeUp_0 : decode cX3_takeUp 0 = .ok (.aload_n 0, 1) := by decide +kernel
theorem dX3_takeUp_1 : decode cX3_takeUp 1 = .ok (.getfield 10, 3) := by decide +kernel
theorem dX3_takeUp_4 : decode cX3_takeUp 4 = .ok (.getfield 79, 3) := by decide +kernel
theorem dX3_takeUp_7 : decode cX3_takeUp 7 = .ok (.ifCond .eq 22, 3) := by decide +kernel
theorem dX3_takeUp_10 : decode cX3_takeUp 10 = .ok (.aload_n 0, 1) := by decide +kernel
theorem dX3_takeUp_11 : decode cX3_takeUp 11 = .ok (.getfield 10, 3) := by decide +kernel
theorem dX3_takeUp_14 : decode cX3_takeUp 14 = .ok (.aload_n 0, 1) := by decide +kernel
theorem dX3_takeUp_15 : decode cX3_takeUp 15 = .ok (.getfield 10, 3) := by decide +kernel
theorem dX3_takeUp_18 : decode cX3_takeUp 18 = .ok (.getfield 79, 3) := by decide +kernel
theorem dX3_takeUp_21 : decode cX3_takeUp 21 = .ok (.iconst 1, 1) := by decide +kernel
theorem dX3_takeUp_22 : decode cX3_takeUp 22 = .ok (.isub, 1) := by decide +kernel
theorem dX3_takeUp_23 : decode cX3_takeUp 23 = .ok (.invokevirtual 83, 3) := by decide +kernel
theorem dX3_takeUp_26 : decode cX3_takeUp 26 = .ok (.ifCond .eq 13, 3) := by decide +kernel
theorem dX3_takeUp_29 : decode cX3_takeUp 29 = .ok (.new 86, 3) := by decide +kernel
theorem dX3_takeUp_32 : decode cX3_takeUp 32 = .ok (.dup, 1) := by decide +kernel
theorem dX3_takeUp_33 : decode cX3_takeUp 33 = .ok (.ldc 88, 2) := by decide +kernel
theorem dX3_takeUp_35 : decode cX3_takeUp 35 = .ok (.invokespecial 90, 3) := by decide +kernel
theorem dX3_takeUp_38 : decode cX3_takeUp 38 = .ok (.athrow, 1) := by decide +kernel
theorem dX3_takeUp_39 : decode cX3_takeUp 39 = .ok (.aload_n 0, 1) := by decide +kernel
theorem dX3_takeUp_40 : decode cX3_takeUp 40 = .ok (.getfield 19, 3) := by decide +kernel
theorem dX3_takeUp_43 : decode cX3_takeUp 43 = .ok (.aload_n 0, 1) := by decide +kernel
theorem dX3_takeUp_44 : decode cX3_takeUp 44 = .ok (.getfield 10, 3) := by decide +kernel
theorem dX3_takeUp_47 : decode cX3_takeUp 47 = .ok (.invokevirtual 38, 3) := by decide +kernel
theorem dX3_takeUp_50 : decode cX3_takeUp 50 = .ok (.aload_n 0, 1) := by decide +kernel
theorem dX3_takeUp_51 : decode cX3_takeUp 51 = .ok (.getfield 10, 3) := by decide +kernel
theorem dX3_takeUp_54 : decode cX3_takeUp 54 = .ok (.invokevirtual 93, 3) := by decide +kernel
theorem dX3_takeUp_57 : decode cX3_takeUp 57 = .ok (.aload_n 0, 1) := by decide +kernel
theorem dX3_takeUp_58 : decode cX3_takeUp 58 = .ok (.getfield 10, 3) := by decide +kernel
theorem dX3_takeUp_61 : decode cX3_takeUp 61 = .ok (.getfield 79, 3) := by decide +kernel
theorem dX3_takeUp_64 : decode cX3_takeUp 64 = .ok (.ireturn, 1) := by decide +kernel
theorem dX3_roads_0 : decode cX3_roads 0 = .ok (.aload_n 0, 1) := by decide +kernel
theorem dX3_roads_1 : decode cX3_roads 1 = .ok (.getfield 10, 3) := by decide +kernel
theorem dX3_roads_4 : decode cX3_roads 4 = .ok (.getfield 79, 3) := by decide +kernel
theorem dX3_roads_7 : decode cX3_roads 7 = .ok (.ireturn, 1) := by decide +kernel
theorem dX3_inn_0 : decode cX3_inn 0 = .ok (.iload_n 2, 1) := by decide +kernel
theorem dX3_inn_1 : decode cX3_inn 1 = .ok (.iconst 1, 1) := by decide +kernel
theorem dX3_inn_2 : decode cX3_inn 2 = .ok (.iconst 3, 1) := by decide +kernel
theorem dX3_inn_3 : decode cX3_inn 3 = .ok (.invokestatic 96, 3) := by decide +kernel
theorem dX3_inn_6 : decode cX3_inn 6 = .ok (.ifCond .eq 11, 3) := by decide +kernel
theorem dX3_inn_9 : decode cX3_inn 9 = .ok (.aload_n 0, 1) := by decide +kernel
theorem dX3_inn_10 : decode cX3_inn 10 = .ok (.iload_n 1, 1) := by decide +kernel
theorem dX3_inn_11 : decode cX3_inn 11 = .ok (.invokevirtual 100, 3) := by decide +kernel
theorem dX3_inn_14 : decode cX3_inn 14 = .ok (.goto 4, 3) := by decide +kernel
theorem dX3_inn_17 : decode cX3_inn 17 = .ok (.iconst 1, 1) := by decide +kernel
theorem dX3_inn_18 : decode cX3_inn 18 = .ok (.invokestatic 34, 3) := by decide +kernel
theorem dX3_inn_21 : decode cX3_inn 21 = .ok (.aload_n 0, 1) := by decide +kernel
theorem dX3_inn_22 : decode cX3_inn 22 = .ok (.getfield 10, 3) := by decide +kernel
theorem dX3_inn_25 : decode cX3_inn 25 = .ok (.iload_n 1, 1) := by decide +kernel
theorem dX3_inn_26 : decode cX3_inn 26 = .ok (.iload_n 2, 1) := by decide +kernel
theorem dX3_inn_27 : decode cX3_inn 27 = .ok (.invokevirtual 103, 3) := by decide +kernel
theorem dX3_inn_30 : decode cX3_inn 30 = .ok (.ireturn, 1) := by decide +kernel
theorem dX3_hall_0 : decode cX3_hall 0 = .ok (.aload_n 0, 1) := by decide +kernel
theorem dX3_hall_1 : decode cX3_hall 1 = .ok (.iload_n 1, 1) := by decide +kernel
theorem dX3_hall_2 : decode cX3_hall 2 = .ok (.invokevirtual 100, 3) := by decide +kernel
theorem dX3_hall_5 : decode cX3_hall 5 = .ok (.invokestatic 34, 3) := by decide +kernel
theorem dX3_hall_8 : decode cX3_hall 8 = .ok (.aload_n 0, 1) := by decide +kernel
theorem dX3_hall_9 : decode cX3_hall 9 = .ok (.getfield 10, 3) := by decide +kernel
theorem dX3_hall_12 : decode cX3_hall 12 = .ok (.getfield 106, 3) := by decide +kernel
theorem dX3_hall_15 : decode cX3_hall 15 = .ok (.iload_n 1, 1) := by decide +kernel
theorem dX3_hall_16 : decode cX3_hall 16 = .ok (.invokestatic 58, 3) := by decide +kernel
theorem dX3_hall_19 : decode cX3_hall 19 = .ok (.ireturn, 1) := by decide +kernel
theorem dX3_stands_0 : decode cX3_stands 0 = .ok (.aload_n 0, 1) := by decide +kernel
theorem dX3_stands_1 : decode cX3_stands 1 = .ok (.iload_n 1, 1) := by decide +kernel
theorem dX3_stands_2 : decode cX3_stands 2 = .ok (.invokevirtual 100, 3) := by decide +kernel
theorem dX3_stands_5 : decode cX3_stands 5 = .ok (.invokestatic 34, 3) := by decide +kernel
theorem dX3_stands_8 : decode cX3_stands 8 = .ok (.aload_n 0, 1) := by decide +kernel
theorem dX3_stands_9 : decode cX3_stands 9 = .ok (.getfield 10, 3) := by decide +kernel
theorem dX3_stands_12 : decode cX3_stands 12 = .ok (.iload_n 1, 1) := by decide +kernel
theorem dX3_stands_13 : decode cX3_stands 13 = .ok (.invokevirtual 109, 3) := by decide +kernel
theorem dX3_stands_16 : decode cX3_stands 16 = .ok (.ireturn, 1) := by decide +kernel
theorem dX3_see_0 : decode cX3_see 0 = .ok (.iload_n 1, 1) := by decide +kernel
theorem dX3_see_1 : decode cX3_see 1 = .ok (.invokestatic 30, 3) := by decide +kernel
theorem dX3_see_4 : decode cX3_see 4 = .ok (.invokestatic 34, 3) := by decide +kernel
theorem dX3_see_7 : decode cX3_see 7 = .ok (.iload_n 3, 1) := by decide +kernel
theorem dX3_see_8 : decode cX3_see 8 = .ok (.iconst 0, 1) := by decide +kernel
theorem dX3_see_9 : decode cX3_see 9 = .ok (.iconst 1, 1) := by decide +kernel
theorem dX3_see_10 : decode cX3_see 10 = .ok (.invokestatic 96, 3) := by decide +kernel
theorem dX3_see_13 : decode cX3_see 13 = .ok (.ifCond .eq 11, 3) := by decide +kernel
theorem dX3_see_16 : decode cX3_see 16 = .ok (.aload_n 0, 1) := by decide +kernel
theorem dX3_see_17 : decode cX3_see 17 = .ok (.iload_n 2, 1) := by decide +kernel
theorem dX3_see_18 : decode cX3_see 18 = .ok (.invokevirtual 100, 3) := by decide +kernel
theorem dX3_see_21 : decode cX3_see 21 = .ok (.goto 4, 3) := by decide +kernel
theorem dX3_see_24 : decode cX3_see 24 = .ok (.iconst 1, 1) := by decide +kernel
theorem dX3_see_25 : decode cX3_see 25 = .ok (.invokestatic 34, 3) := by decide +kernel
theorem dX3_see_28 : decode cX3_see 28 = .ok (.aload_n 0, 1) := by decide +kernel
theorem dX3_see_29 : decode cX3_see 29 = .ok (.getfield 10, 3) := by decide +kernel
theorem dX3_see_32 : decode cX3_see 32 = .ok (.iload_n 1, 1) := by decide +kernel
theorem dX3_see_33 : decode cX3_see 33 = .ok (.iload_n 2, 1) := by decide +kernel
theorem dX3_see_34 : decode cX3_see 34 = .ok (.iload_n 3, 1) := by decide +kernel
theorem dX3_see_35 : decode cX3_see 35 = .ok (.invokevirtual 112, 3) := by decide +kernel
theorem dX3_see_38 : decode cX3_see 38 = .ok (.ireturn, 1) := by decide +kernel
theorem dX3_known_0 : decode cX3_known 0 = .ok (.iload_n 1, 1) := by decide +kernel
theorem dX3_known_1 : decode cX3_known 1 = .ok (.invokestatic 30, 3) := by decide +kernel
theorem dX3_known_4 : decode cX3_known 4 = .ok (.invokestatic 34, 3) := by decide +kernel
theorem dX3_known_7 : decode cX3_known 7 = .ok (.aload_n 0, 1) := by decide +kernel
theorem dX3_known_8 : decode cX3_known 8 = .ok (.getfield 10, 3) := by decide +kernel
theorem dX3_known_11 : decode cX3_known 11 = .ok (.iload_n 1, 1) := by decide +kernel
theorem dX3_known_12 : decode cX3_known 12 = .ok (.invokevirtual 116, 3) := by decide +kernel
theorem dX3_known_15 : decode cX3_known 15 = .ok (.ireturn, 1) := by decide +kernel
theorem dX3_send_0 : decode cX3_send 0 = .ok (.aload_n 0, 1) := by decide +kernel
theorem dX3_send_1 : decode cX3_send 1 = .ok (.iload_n 1, 1) := by decide +kernel
theorem dX3_send_2 : decode cX3_send 2 = .ok (.iload_n 2, 1) := by decide +kernel
theorem dX3_send_3 : decode cX3_send 3 = .ok (.invokevirtual 119, 3) := by decide +kernel
theorem dX3_send_6 : decode cX3_send 6 = .ok (.invokestatic 34, 3) := by decide +kernel
theorem dX3_send_9 : decode cX3_send 9 = .ok (.aload_n 0, 1) := by decide +kernel
theorem dX3_send_10 : decode cX3_send 10 = .ok (.getfield 19, 3) := by decide +kernel
theorem dX3_send_13 : decode cX3_send 13 = .ok (.aload_n 0, 1) := by decide +kernel
theorem dX3_send_14 : decode cX3_send 14 = .ok (.getfield 10, 3) := by decide +kernel
theorem dX3_send_17 : decode cX3_send 17 = .ok (.invokevirtual 38, 3) := by decide +kernel
theorem dX3_send_20 : decode cX3_send 20 = .ok (.aload_n 0, 1) := by decide +kernel
theorem dX3_send_21 : decode cX3_send 21 = .ok (.getfield 10, 3) := by decide +kernel
theorem dX3_send_24 : decode cX3_send 24 = .ok (.iload_n 1, 1) := by decide +kernel
theorem dX3_send_25 : decode cX3_send 25 = .ok (.iload_n 2, 1) := by decide +kernel
theorem dX3_send_26 : decode cX3_send 26 = .ok (.invokevirtual 122, 3) := by decide +kernel
theorem dX3_send_29 : decode cX3_send 29 = .ok (.ireturn, 1) := by decide +kernel
theorem dX3_answer_0 : decode cX3_answer 0 = .ok (.aload_n 0, 1) := by decide +kernel
theorem dX3_answer_1 : decode cX3_answer 1 = .ok (.iload_n 1, 1) := by decide +kernel
theorem dX3_answer_2 : decode cX3_answer 2 = .ok (.iload_n 2, 1) := by decide +kernel
theorem dX3_answer_3 : decode cX3_answer 3 = .ok (.invokevirtual 125, 3) := by decide +kernel
theorem dX3_answer_6 : decode cX3_answer 6 = .ok (.invokestatic 34, 3) := by decide +kernel
theorem dX3_answer_9 : decode cX3_answer 9 = .ok (.aload_n 0, 1) := by decide +kernel
theorem dX3_answer_10 : decode cX3_answer 10 = .ok (.getfield 19, 3) := by decide +kernel
theorem dX3_answer_13 : decode cX3_answer 13 = .ok (.aload_n 0, 1) := by decide +kernel
theorem dX3_answer_14 : decode cX3_answer 14 = .ok (.getfield 10, 3) := by decide +kernel
theorem dX3_answer_17 : decode cX3_answer 17 = .ok (.invokevirtual 38, 3) := by decide +kernel
theorem dX3_answer_20 : decode cX3_answer 20 = .ok (.aload_n 0, 1) := by decide +kernel
theorem dX3_answer_21 : decode cX3_answer 21 = .ok (.getfield 10, 3) := by decide +kernel
theorem dX3_answer_24 : decode cX3_answer 24 = .ok (.iload_n 1, 1) := by decide +kernel
theorem dX3_answer_25 : decode cX3_answer 25 = .ok (.iload_n 2, 1) := by decide +kernel
theorem dX3_answer_26 : decode cX3_answer 26 = .ok (.invokevirtual 128, 3) := by decide +kernel
theorem dX3_answer_29 : decode cX3_answer 29 = .ok (.ireturn, 1) := by decide +kernel
theorem dX3_pass_0 : decode cX3_pass 0 = .ok (.iload_n 1, 1) := by decide +kernel
theorem dX3_pass_1 : decode cX3_pass 1 = .ok (.iconst 1, 1) := by decide +kernel
theorem dX3_pass_2 : decode cX3_pass 2 = .ok (.bipush 9, 2) := by decide +kernel
theorem dX3_pass_4 : decode cX3_pass 4 = .ok (.invokestatic 96, 3) := by decide +kernel
theorem dX3_pass_7 : decode cX3_pass 7 = .ok (.ifCond .ne 13, 3) := by decide +kernel
theorem dX3_pass_10 : decode cX3_pass 10 = .ok (.new 131, 3) := by decide +kernel
theorem dX3_pass_13 : decode cX3_pass 13 = .ok (.dup, 1) := by decide +kernel
theorem dX3_pass_14 : decode cX3_pass 14 = .ok (.ldc 133, 2) := by decide +kernel
theorem dX3_pass_16 : decode cX3_pass 16 = .ok (.invokespecial 135, 3) := by decide +kernel
theorem dX3_pass_19 : decode cX3_pass 19 = .ok (.athrow, 1) := by decide +kernel
theorem dX3_pass_20 : decode cX3_pass 20 = .ok (.aload_n 0, 1) := by decide +kernel
theorem dX3_pass_21 : decode cX3_pass 21 = .ok (.getfield 19, 3) := by decide +kernel
theorem dX3_pass_24 : decode cX3_pass 24 = .ok (.aload_n 0, 1) := by decide +kernel
theorem dX3_pass_25 : decode cX3_pass 25 = .ok (.getfield 10, 3) := by decide +kernel
theorem dX3_pass_28 : decode cX3_pass 28 = .ok (.invokevirtual 38, 3) := by decide +kernel
theorem dX3_pass_31 : decode cX3_pass 31 = .ok (.aload_n 0, 1) := by decide +kernel
theorem dX3_pass_32 : decode cX3_pass 32 = .ok (.getfield 10, 3) := by decide +kernel
theorem dX3_pass_35 : decode cX3_pass 35 = .ok (.iload_n 1, 1) := by decide +kernel
theorem dX3_pass_36 : decode cX3_pass 36 = .ok (.invokevirtual 136, 3) := by decide +kernel
theorem dX3_pass_39 : decode cX3_pass 39 = .ok (.ireturn, 1) := by decide +kernel
theorem dX3_envelopes_0 : decode cX3_envelopes 0 = .ok (.aload_n 0, 1) := by decide +kernel
theorem dX3_envelopes_1 : decode cX3_envelopes 1 = .ok (.getfield 10, 3) := by decide +kernel
theorem dX3_envelopes_4 : decode cX3_envelopes 4 = .ok (.getfield 139, 3) := by decide +kernel
theorem dX3_envelopes_7 : decode cX3_envelopes 7 = .ok (.ireturn, 1) := by decide +kernel
theorem dX3_envelope_0 : decode cX3_envelope 0 = .ok (.iload_n 2, 1) := by decide +kernel
theorem dX3_envelope_1 : decode cX3_envelope 1 = .ok (.iconst 0, 1) := by decide +kernel
theorem dX3_envelope_2 : decode cX3_envelope 2 = .ok (.iconst 3, 1) := by decide +kernel
theorem dX3_envelope_3 : decode cX3_envelope 3 = .ok (.invokestatic 96, 3) := by decide +kernel
theorem dX3_envelope_6 : decode cX3_envelope 6 = .ok (.ifCond .eq 11, 3) := by decide +kernel
theorem dX3_envelope_9 : decode cX3_envelope 9 = .ok (.aload_n 0, 1) := by decide +kernel
theorem dX3_envelope_10 : decode cX3_envelope 10 = .ok (.iload_n 1, 1) := by decide +kernel
theorem dX3_envelope_11 : decode cX3_envelope 11 = .ok (.invokevirtual 142, 3) := by decide +kernel
theorem dX3_envelope_14 : decode cX3_envelope 14 = .ok (.goto 4, 3) := by decide +kernel
theorem dX3_envelope_17 : decode cX3_envelope 17 = .ok (.iconst 1, 1) := by decide +kernel
theorem dX3_envelope_18 : decode cX3_envelope 18 = .ok (.invokestatic 34, 3) := by decide +kernel
theorem dX3_envelope_21 : decode cX3_envelope 21 = .ok (.aload_n 0, 1) := by decide +kernel
theorem dX3_envelope_22 : decode cX3_envelope 22 = .ok (.getfield 10, 3) := by decide +kernel
theorem dX3_envelope_25 : decode cX3_envelope 25 = .ok (.iload_n 1, 1) := by decide +kernel
theorem dX3_envelope_26 : decode cX3_envelope 26 = .ok (.iload_n 2, 1) := by decide +kernel
theorem dX3_envelope_27 : decode cX3_envelope 27 = .ok (.invokevirtual 145, 3) := by decide +kernel
theorem dX3_envelope_30 : decode cX3_envelope 30 = .ok (.ireturn, 1) := by decide +kernel
theorem dX3_letter_0 : decode cX3_letter 0 = .ok (.iload_n 1, 1) := by decide +kernel
theorem dX3_letter_1 : decode cX3_letter 1 = .ok (.invokestatic 148, 3) := by decide +kernel
theorem dX3_letter_4 : decode cX3_letter 4 = .ok (.invokestatic 34, 3) := by decide +kernel
theorem dX3_letter_7 : decode cX3_letter 7 = .ok (.aload_n 0, 1) := by decide +kernel
theorem dX3_letter_8 : decode cX3_letter 8 = .ok (.getfield 10, 3) := by decide +kernel
theorem dX3_letter_11 : decode cX3_letter 11 = .ok (.getfield 151, 3) := by decide +kernel
theorem dX3_letter_14 : decode cX3_letter 14 = .ok (.iload_n 1, 1) := by decide +kernel
theorem dX3_letter_15 : decode cX3_letter 15 = .ok (.invokestatic 58, 3) := by decide +kernel
theorem dX3_letter_18 : decode cX3_letter 18 = .ok (.ireturn, 1) := by decide +kernel
theorem dX3_lastAnswer_0 : decode cX3_lastAnswer 0 = .ok (.aload_n 0, 1) := by decide +kernel
theorem dX3_lastAnswer_1 : decode cX3_lastAnswer 1 = .ok (.getfield 10, 3) := by decide +kernel
theorem dX3_lastAnswer_4 : decode cX3_lastAnswer 4 = .ok (.getfield 154, 3) := by decide +kernel
theorem dX3_lastAnswer_7 : decode cX3_lastAnswer 7 = .ok (.ireturn, 1) := by decide +kernel
theorem dX3_count_0 : decode cX3_count 0 = .ok (.iload_n 1, 1) := by decide +kernel
theorem dX3_count_1 : decode cX3_count 1 = .ok (.iconst 0, 1) := by decide +kernel
theorem dX3_count_2 : decode cX3_count 2 = .ok (.iconst 4, 1) := by decide +kernel
theorem dX3_count_3 : decode cX3_count 3 = .ok (.invokestatic 96, 3) := by decide +kernel
theorem dX3_count_6 : decode cX3_count 6 = .ok (.ifCond .eq 7, 3) := by decide +kernel
theorem dX3_count_9 : decode cX3_count 9 = .ok (.iconst 0, 1) := by decide +kernel
theorem dX3_count_10 : decode cX3_count 10 = .ok (.goto 4, 3) := by decide +kernel
theorem dX3_count_13 : decode cX3_count 13 = .ok (.iconst 1, 1) := by decide +kernel
theorem dX3_count_14 : decode cX3_count 14 = .ok (.invokestatic 34, 3) := by decide +kernel
theorem dX3_count_17 : decode cX3_count 17 = .ok (.aload_n 0, 1) := by decide +kernel
theorem dX3_count_18 : decode cX3_count 18 = .ok (.getfield 10, 3) := by decide +kernel
theorem dX3_count_21 : decode cX3_count 21 = .ok (.getfield 157, 3) := by decide +kernel
theorem dX3_count_24 : decode cX3_count 24 = .ok (.iload_n 1, 1) := by decide +kernel
theorem dX3_count_25 : decode cX3_count 25 = .ok (.invokestatic 58, 3) := by decide +kernel
theorem dX3_count_28 : decode cX3_count 28 = .ok (.ireturn, 1) := by decide +kernel
theorem dX3_deliveredShare_0 : decode cX3_deliveredShare 0 = .ok (.aload_n 0, 1) := by decide +kernel
theorem dX3_deliveredShare_1 : decode cX3_deliveredShare 1 = .ok (.getfield 10, 3) := by decide +kernel
theorem dX3_deliveredShare_4 : decode cX3_deliveredShare 4 = .ok (.getfield 157, 3) := by decide +kernel
theorem dX3_deliveredShare_7 : decode cX3_deliveredShare 7 = .ok (.iconst 0, 1) := by decide +kernel
theorem dX3_deliveredShare_8 : decode cX3_deliveredShare 8 = .ok (.invokestatic 58, 3) := by decide +kernel
theorem dX3_deliveredShare_11 : decode cX3_deliveredShare 11 = .ok (.istore_n 1, 1) := by decide +kernel
theorem dX3_deliveredShare_12 : decode cX3_deliveredShare 12 = .ok (.iload_n 1, 1) := by decide +kernel
theorem dX3_deliveredShare_13 : decode cX3_deliveredShare 13 = .ok (.ifCond .ne 5, 3) := by decide +kernel
theorem dX3_deliveredShare_16 : decode cX3_deliveredShare 16 = .ok (.dconst 1, 1) := by decide +kernel
theorem dX3_deliveredShare_17 : decode cX3_deliveredShare 17 = .ok (.dreturn, 1) := by decide +kernel
theorem dX3_deliveredShare_18 : decode cX3_deliveredShare 18 = .ok (.aload_n 0, 1) := by decide +kernel
theorem dX3_deliveredShare_19 : decode cX3_deliveredShare 19 = .ok (.getfield 10, 3) := by decide +kernel
theorem dX3_deliveredShare_22 : decode cX3_deliveredShare 22 = .ok (.getfield 157, 3) := by decide +kernel
theorem dX3_deliveredShare_25 : decode cX3_deliveredShare 25 = .ok (.iconst 1, 1) := by decide +kernel
theorem dX3_deliveredShare_26 : decode cX3_deliveredShare 26 = .ok (.invokestatic 58, 3) := by decide +kernel
theorem dX3_deliveredShare_29 : decode cX3_deliveredShare 29 = .ok (.i2d, 1) := by decide +kernel
theorem dX3_deliveredShare_30 : decode cX3_deliveredShare 30 = .ok (.iload_n 1, 1) := by decide +kernel
theorem dX3_deliveredShare_31 : decode cX3_deliveredShare 31 = .ok (.i2d, 1) := by decide +kernel
theorem dX3_deliveredShare_32 : decode cX3_deliveredShare 32 = .ok (.ddiv, 1) := by decide +kernel
theorem dX3_deliveredShare_33 : decode cX3_deliveredShare 33 = .ok (.dreturn, 1) := by decide +kernel
theorem dX3_lostIfClosed_0 : decode cX3_lostIfClosed 0 = .ok (.iload_n 1, 1) := by decide +kernel
theorem dX3_lostIfClosed_1 : decode cX3_lostIfClosed 1 = .ok (.invokestatic 30, 3) := by decide +kernel
theorem dX3_lostIfClosed_4 : decode cX3_lostIfClosed 4 = .ok (.invokestatic 34, 3) := by decide +kernel
theorem dX3_lostIfClosed_7 : decode cX3_lostIfClosed 7 = .ok (.aload_n 0, 1) := by decide +kernel
theorem dX3_lostIfClosed_8 : decode cX3_lostIfClosed 8 = .ok (.getfield 10, 3) := by decide +kernel
theorem dX3_lostIfClosed_11 : decode cX3_lostIfClosed 11 = .ok (.iload_n 1, 1) := by decide +kernel
theorem dX3_lostIfClosed_12 : decode cX3_lostIfClosed 12 = .ok (.invokevirtual 160, 3) := by decide +kernel
theorem dX3_lostIfClosed_15 : decode cX3_lostIfClosed 15 = .ok (.ireturn, 1) := by decide +kernel
theorem dX3_ticksTo_0 : decode cX3_ticksTo 0 = .ok (.aload_n 0, 1) := by decide +kernel
theorem dX3_ticksTo_1 : decode cX3_ticksTo 1 = .ok (.iload_n 1, 1) := by decide +kernel
theorem dX3_ticksTo_2 : decode cX3_ticksTo 2 = .ok (.invokevirtual 142, 3) := by decide +kernel
theorem dX3_ticksTo_5 : decode cX3_ticksTo 5 = .ok (.invokestatic 34, 3) := by decide +kernel
theorem dX3_ticksTo_8 : decode cX3_ticksTo 8 = .ok (.aload_n 0, 1) := by decide +kernel
theorem dX3_ticksTo_9 : decode cX3_ticksTo 9 = .ok (.getfield 10, 3) := by decide +kernel
theorem dX3_ticksTo_12 : decode cX3_ticksTo 12 = .ok (.iload_n 1, 1) := by decide +kernel
theorem dX3_ticksTo_13 : decode cX3_ticksTo 13 = .ok (.aload_n 0, 1) := by decide +kernel
theorem dX3_ticksTo_14 : decode cX3_ticksTo 14 = .ok (.getfield 10, 3) := by decide +kernel
theorem dX3_ticksTo_17 : decode cX3_ticksTo 17 = .ok (.getfield 163, 3) := by decide +kernel
theorem dX3_ticksTo_20 : decode cX3_ticksTo 20 = .ok (.invokevirtual 166, 3) := by decide +kernel
theorem dX3_ticksTo_23 : decode cX3_ticksTo 23 = .ok (.ireturn, 1) := by decide +kernel
theorem dX3_leastWork_0 : decode cX3_leastWork 0 = .ok (.iload_n 1, 1) := by decide +kernel
theorem dX3_leastWork_1 : decode cX3_leastWork 1 = .ok (.iconst 1, 1) := by decide +kernel
theorem dX3_leastWork_2 : decode cX3_leastWork 2 = .ok (.iconst 3, 1) := by decide +kernel
theorem dX3_leastWork_3 : decode cX3_leastWork 3 = .ok (.invokestatic 96, 3) := by decide +kernel
theorem dX3_leastWork_6 : decode cX3_leastWork 6 = .ok (.ifCond .eq 7, 3) := by decide +kernel
theorem dX3_leastWork_9 : decode cX3_leastWork 9 = .ok (.iconst 0, 1) := by decide +kernel
theorem dX3_leastWork_10 : decode cX3_leastWork 10 = .ok (.goto 4, 3) := by decide +kernel
theorem dX3_leastWork_13 : decode cX3_leastWork 13 = .ok (.iconst 1, 1) := by decide +kernel
theorem dX3_leastWork_14 : decode cX3_leastWork 14 = .ok (.invokestatic 34, 3) := by decide +kernel
theorem dX3_leastWork_17 : decode cX3_leastWork 17 = .ok (.aload_n 0, 1) := by decide +kernel
theorem dX3_leastWork_18 : decode cX3_leastWork 18 = .ok (.getfield 10, 3) := by decide +kernel
theorem dX3_leastWork_21 : decode cX3_leastWork 21 = .ok (.iload_n 1, 1) := by decide +kernel
theorem dX3_leastWork_22 : decode cX3_leastWork 22 = .ok (.invokevirtual 169, 3) := by decide +kernel
theorem dX3_leastWork_25 : decode cX3_leastWork 25 = .ok (.ireturn, 1) := by decide +kernel
theorem dX3_undo_0 : decode cX3_undo 0 = .ok (.aload_n 0, 1) := by decide +kernel
theorem dX3_undo_1 : decode cX3_undo 1 = .ok (.getfield 19, 3) := by decide +kernel
theorem dX3_undo_4 : decode cX3_undo 4 = .ok (.getfield 202, 3) := by decide +kernel
theorem dX3_undo_7 : decode cX3_undo 7 = .ok (.ifCond .ne 13, 3) := by decide +kernel
theorem dX3_undo_10 : decode cX3_undo 10 = .ok (.new 86, 3) := by decide +kernel
theorem dX3_undo_13 : decode cX3_undo 13 = .ok (.dup, 1) := by decide +kernel
theorem dX3_undo_14 : decode cX3_undo 14 = .ok (.ldc 205, 2) := by decide +kernel
theorem dX3_undo_16 : decode cX3_undo 16 = .ok (.invokespecial 90, 3) := by decide +kernel
theorem dX3_undo_19 : decode cX3_undo 19 = .ok (.athrow, 1) := by decide +kernel
theorem dX3_undo_20 : decode cX3_undo 20 = .ok (.aload_n 0, 1) := by decide +kernel
theorem dX3_undo_21 : decode cX3_undo 21 = .ok (.getfield 19, 3) := by decide +kernel
theorem dX3_undo_24 : decode cX3_undo 24 = .ok (.aload_n 0, 1) := by decide +kernel
theorem dX3_undo_25 : decode cX3_undo 25 = .ok (.getfield 10, 3) := by decide +kernel
theorem dX3_undo_28 : decode cX3_undo 28 = .ok (.invokevirtual 207, 3) := by decide +kernel
theorem dX3_undo_31 : decode cX3_undo 31 = .ok (.aload_n 0, 1) := by decide +kernel
theorem dX3_undo_32 : decode cX3_undo 32 = .ok (.getfield 19, 3) := by decide +kernel
theorem dX3_undo_35 : decode cX3_undo 35 = .ok (.getfield 202, 3) := by decide +kernel
theorem dX3_undo_38 : decode cX3_undo 38 = .ok (.ireturn, 1) := by decide +kernel
theorem dX3_savedStates_0 : decode cX3_savedStates 0 = .ok (.aload_n 0, 1) := by decide +kernel
theorem dX3_savedStates_1 : decode cX3_savedStates 1 = .ok (.getfield 19, 3) := by decide +kernel
theorem dX3_savedStates_4 : decode cX3_savedStates 4 = .ok (.getfield 202, 3) := by decide +kernel
theorem dX3_savedStates_7 : decode cX3_savedStates 7 = .ok (.ireturn, 1) := by decide +kernel
theorem dX3_digest_0 : decode cX3_digest 0 = .ok (.ldc2_w 210, 3) := by decide +kernel
theorem dX3_digest_3 : decode cX3_digest 3 = .ok (.lstore_n 1, 1) := by decide +kernel
theorem dX3_digest_4 : decode cX3_digest 4 = .ok (.lload_n 1, 1) := by decide +kernel
theorem dX3_digest_5 : decode cX3_digest 5 = .ok (.aload_n 0, 1) := by decide +kernel
theorem dX3_digest_6 : decode cX3_digest 6 = .ok (.getfield 10, 3) := by decide +kernel
theorem dX3_digest_9 : decode cX3_digest 9 = .ok (.getfield 79, 3) := by decide +kernel
theorem dX3_digest_12 : decode cX3_digest 12 = .ok (.invokestatic 212, 3) := by decide +kernel
theorem dX3_digest_15 : decode cX3_digest 15 = .ok (.lstore_n 1, 1) := by decide +kernel
theorem dX3_digest_16 : decode cX3_digest 16 = .ok (.lload_n 1, 1) := by decide +kernel
theorem dX3_digest_17 : decode cX3_digest 17 = .ok (.aload_n 0, 1) := by decide +kernel
theorem dX3_digest_18 : decode cX3_digest 18 = .ok (.getfield 10, 3) := by decide +kernel
theorem dX3_digest_21 : decode cX3_digest 21 = .ok (.getfield 139, 3) := by decide +kernel
theorem dX3_digest_24 : decode cX3_digest 24 = .ok (.invokestatic 212, 3) := by decide +kernel
theorem dX3_digest_27 : decode cX3_digest 27 = .ok (.lstore_n 1, 1) := by decide +kernel
theorem dX3_digest_28 : decode cX3_digest 28 = .ok (.lload_n 1, 1) := by decide +kernel
theorem dX3_digest_29 : decode cX3_digest 29 = .ok (.aload_n 0, 1) := by decide +kernel
theorem dX3_digest_30 : decode cX3_digest 30 = .ok (.getfield 10, 3) := by decide +kernel
theorem dX3_digest_33 : decode cX3_digest 33 = .ok (.getfield 154, 3) := by decide +kernel
theorem dX3_digest_36 : decode cX3_digest 36 = .ok (.invokestatic 212, 3) := by decide +kernel
theorem dX3_digest_39 : decode cX3_digest 39 = .ok (.lstore_n 1, 1) := by decide +kernel
theorem dX3_digest_40 : decode cX3_digest 40 = .ok (.lload_n 1, 1) := by decide +kernel
theorem dX3_digest_41 : decode cX3_digest 41 = .ok (.aload_n 0, 1) := by decide +kernel
theorem dX3_digest_42 : decode cX3_digest 42 = .ok (.getfield 10, 3) := by decide +kernel
theorem dX3_digest_45 : decode cX3_digest 45 = .ok (.getfield 157, 3) := by decide +kernel
theorem dX3_digest_48 : decode cX3_digest 48 = .ok (.invokestatic 216, 3) := by decide +kernel
theorem dX3_digest_51 : decode cX3_digest 51 = .ok (.lstore_n 1, 1) := by decide +kernel
theorem dX3_digest_52 : decode cX3_digest 52 = .ok (.aload_n 0, 1) := by decide +kernel
theorem dX3_digest_53 : decode cX3_digest 53 = .ok (.lload_n 1, 1) := by decide +kernel
theorem dX3_digest_54 : decode cX3_digest 54 = .ok (.invokevirtual 220, 3) := by decide +kernel
theorem dX3_digest_57 : decode cX3_digest 57 = .ok (.lstore_n 1, 1) := by decide +kernel
theorem dX3_digest_58 : decode cX3_digest 58 = .ok (.aload_n 0, 1) := by decide +kernel
theorem dX3_digest_59 : decode cX3_digest 59 = .ok (.lload_n 1, 1) := by decide +kernel
theorem dX3_digest_60 : decode cX3_digest 60 = .ok (.invokevirtual 224, 3) := by decide +kernel
theorem dX3_digest_63 : decode cX3_digest 63 = .ok (.lstore_n 1, 1) := by decide +kernel
theorem dX3_digest_64 : decode cX3_digest 64 = .ok (.aload_n 0, 1) := by decide +kernel
theorem dX3_digest_65 : decode cX3_digest 65 = .ok (.lload_n 1, 1) := by decide +kernel
theorem dX3_digest_66 : decode cX3_digest 66 = .ok (.invokevirtual 227, 3) := by decide +kernel
theorem dX3_digest_69 : decode cX3_digest 69 = .ok (.lstore_n 1, 1) := by decide +kernel
theorem dX3_digest_70 : decode cX3_digest 70 = .ok (.lload_n 1, 1) := by decide +kernel
theorem dX3_digest_71 : decode cX3_digest 71 = .ok (.aload_n 0, 1) := by decide +kernel
theorem dX3_digest_72 : decode cX3_digest 72 = .ok (.getfield 10, 3) := by decide +kernel
theorem dX3_digest_75 : decode cX3_digest 75 = .ok (.getfield 151, 3) := by decide +kernel
theorem dX3_digest_78 : decode cX3_digest 78 = .ok (.invokestatic 216, 3) := by decide +kernel
theorem dX3_digest_81 : decode cX3_digest 81 = .ok (.lstore_n 1, 1) := by decide +kernel
theorem dX3_digest_82 : decode cX3_digest 82 = .ok (.iconst 1, 1) := by decide +kernel
theorem dX3_digest_83 : decode cX3_digest 83 = .ok (.istore_n 3, 1) := by decide +kernel
theorem dX3_digest_84 : decode cX3_digest 84 = .ok (.iload_n 3, 1) := by decide +kernel
theorem dX3_digest_85 : decode cX3_digest 85 = .ok (.iconst 3, 1) := by decide +kernel
theorem dX3_digest_86 : decode cX3_digest 86 = .ok (.if_icmp .gt 22, 3) := by decide +kernel
theorem dX3_digest_89 : decode cX3_digest 89 = .ok (.lload_n 1, 1) := by decide +kernel
theorem dX3_digest_90 : decode cX3_digest 90 = .ok (.aload_n 0, 1) := by decide +kernel
theorem dX3_digest_91 : decode cX3_digest 91 = .ok (.getfield 10, 3) := by decide +kernel
theorem dX3_digest_94 : decode cX3_digest 94 = .ok (.iload_n 3, 1) := by decide +kernel
theorem dX3_digest_95 : decode cX3_digest 95 = .ok (.invokevirtual 169, 3) := by decide +kernel
theorem dX3_digest_98 : decode cX3_digest 98 = .ok (.invokestatic 212, 3) := by decide +kernel
theorem dX3_digest_101 : decode cX3_digest 101 = .ok (.lstore_n 1, 1) := by decide +kernel
theorem dX3_digest_102 : decode cX3_digest 102 = .ok (.iinc 3 1, 3) := by decide +kernel
theorem dX3_digest_105 : decode cX3_digest 105 = .ok (.goto (-21), 3) := by decide +kernel
theorem dX3_digest_108 : decode cX3_digest 108 = .ok (.lload_n 1, 1) := by decide +kernel
theorem dX3_digest_109 : decode cX3_digest 109 = .ok (.lreturn, 1) := by decide +kernel
theorem dX3_refuse_0 : decode cX3_refuse 0 = .ok (.iload_n 0, 1) := by decide +kernel
theorem dX3_refuse_1 : decode cX3_refuse 1 = .ok (.iconst 1, 1) := by decide +kernel
theorem dX3_refuse_2 : decode cX3_refuse 2 = .ok (.if_icmp .ne 13, 3) := by decide +kernel
theorem dX3_refuse_5 : decode cX3_refuse 5 = .ok (.new 230, 3) := by decide +kernel
theorem dX3_refuse_8 : decode cX3_refuse 8 = .ok (.dup, 1) := by decide +kernel
theorem dX3_refuse_9 : decode cX3_refuse 9 = .ok (.ldc 232, 2) := by decide +kernel
theorem dX3_refuse_11 : decode cX3_refuse 11 = .ok (.invokespecial 234, 3) := by decide +kernel
theorem dX3_refuse_14 : decode cX3_refuse 14 = .ok (.athrow, 1) := by decide +kernel
theorem dX3_refuse_15 : decode cX3_refuse 15 = .ok (.iload_n 0, 1) := by decide +kernel
theorem dX3_refuse_16 : decode cX3_refuse 16 = .ok (.iconst 2, 1) := by decide +kernel
theorem dX3_refuse_17 : decode cX3_refuse 17 = .ok (.if_icmp .ne 13, 3) := by decide +kernel
theorem dX3_refuse_20 : decode cX3_refuse 20 = .ok (.new 131, 3) := by decide +kernel
theorem dX3_refuse_23 : decode cX3_refuse 23 = .ok (.dup, 1) := by decide +kernel
theorem dX3_refuse_24 : decode cX3_refuse 24 = .ok (.ldc 235, 2) := by decide +kernel
theorem dX3_refuse_26 : decode cX3_refuse 26 = .ok (.invokespecial 135, 3) := by decide +kernel
theorem dX3_refuse_29 : decode cX3_refuse 29 = .ok (.athrow, 1) := by decide +kernel
theorem dX3_refuse_30 : decode cX3_refuse 30 = .ok (.iload_n 0, 1) := by decide +kernel
theorem dX3_refuse_31 : decode cX3_refuse 31 = .ok (.iconst 3, 1) := by decide +kernel
theorem dX3_refuse_32 : decode cX3_refuse 32 = .ok (.if_icmp .ne 13, 3) := by decide +kernel
theorem dX3_refuse_35 : decode cX3_refuse 35 = .ok (.new 86, 3) := by decide +kernel
theorem dX3_refuse_38 : decode cX3_refuse 38 = .ok (.dup, 1) := by decide +kernel
theorem dX3_refuse_39 : decode cX3_refuse 39 = .ok (.ldc 237, 2) := by decide +kernel
theorem dX3_refuse_41 : decode cX3_refuse 41 = .ok (.invokespecial 90, 3) := by decide +kernel
theorem dX3_refuse_44 : decode cX3_refuse 44 = .ok (.athrow, 1) := by decide +kernel
theorem dX3_refuse_45 : decode cX3_refuse 45 = .ok (.return_, 1) := by decide +kernel
theorem dX3_innFault_0 : decode cX3_innFault 0 = .ok (.iload_n 0, 1) := by decide +kernel
theorem dX3_innFault_1 : decode cX3_innFault 1 = .ok (.iconst 0, 1) := by decide +kernel
theorem dX3_innFault_2 : decode cX3_innFault 2 = .ok (.bipush 7, 2) := by decide +kernel
theorem dX3_innFault_4 : decode cX3_innFault 4 = .ok (.invokestatic 96, 3) := by decide +kernel
theorem dX3_innFault_7 : decode cX3_innFault 7 = .ok (.ifCond .eq 7, 3) := by decide +kernel
theorem dX3_innFault_10 : decode cX3_innFault 10 = .ok (.iconst 0, 1) := by decide +kernel
theorem dX3_innFault_11 : decode cX3_innFault 11 = .ok (.goto 4, 3) := by decide +kernel
theorem dX3_innFault_14 : decode cX3_innFault 14 = .ok (.iconst 1, 1) := by decide +kernel
theorem dX3_innFault_15 : decode cX3_innFault 15 = .ok (.ireturn, 1) := by decide +kernel
theorem dX3_hallFault_0 : decode cX3_hallFault 0 = .ok (.iload_n 0, 1) := by decide +kernel
theorem dX3_hallFault_1 : decode cX3_hallFault 1 = .ok (.iconst 0, 1) := by decide +kernel
theorem dX3_hallFault_2 : decode cX3_hallFault 2 = .ok (.iconst 3, 1) := by decide +kernel
theorem dX3_hallFault_3 : decode cX3_hallFault 3 = .ok (.invokestatic 96, 3) := by decide +kernel
theorem dX3_hallFault_6 : decode cX3_hallFault 6 = .ok (.ifCond .eq 7, 3) := by decide +kernel
theorem dX3_hallFault_9 : decode cX3_hallFault 9 = .ok (.iconst 0, 1) := by decide +kernel
theorem dX3_hallFault_10 : decode cX3_hallFault 10 = .ok (.goto 4, 3) := by decide +kernel
theorem dX3_hallFault_13 : decode cX3_hallFault 13 = .ok (.iconst 1, 1) := by decide +kernel
theorem dX3_hallFault_14 : decode cX3_hallFault 14 = .ok (.ireturn, 1) := by decide +kernel
theorem dX3_roadFault_0 : decode cX3_roadFault 0 = .ok (.iload_n 1, 1) := by decide +kernel
theorem dX3_roadFault_1 : decode cX3_roadFault 1 = .ok (.iconst 0, 1) := by decide +kernel
theorem dX3_roadFault_2 : decode cX3_roadFault 2 = .ok (.aload_n 0, 1) := by decide +kernel
theorem dX3_roadFault_3 : decode cX3_roadFault 3 = .ok (.getfield 10, 3) := by decide +kernel
theorem dX3_roadFault_6 : decode cX3_roadFault 6 = .ok (.getfield 79, 3) := by decide +kernel
theorem dX3_roadFault_9 : decode cX3_roadFault 9 = .ok (.iconst 1, 1) := by decide +kernel
theorem dX3_roadFault_10 : decode cX3_roadFault 10 = .ok (.isub, 1) := by decide +kernel
theorem dX3_roadFault_11 : decode cX3_roadFault 11 = .ok (.invokestatic 96, 3) := by decide +kernel
theorem dX3_roadFault_14 : decode cX3_roadFault 14 = .ok (.ifCond .eq 7, 3) := by decide +kernel
theorem dX3_roadFault_17 : decode cX3_roadFault 17 = .ok (.iconst 0, 1) := by decide +kernel
theorem dX3_roadFault_18 : decode cX3_roadFault 18 = .ok (.goto 4, 3) := by decide +kernel
theorem dX3_roadFault_21 : decode cX3_roadFault 21 = .ok (.iconst 1, 1) := by decide +kernel
theorem dX3_roadFault_22 : decode cX3_roadFault 22 = .ok (.ireturn, 1) := by decide +kernel
theorem dX3_envelopeFault_0 : decode cX3_envelopeFault 0 = .ok (.iload_n 1, 1) := by decide +kernel
theorem dX3_envelopeFault_1 : decode cX3_envelopeFault 1 = .ok (.iconst 0, 1) := by decide +kernel
theorem dX3_envelopeFault_2 : decode cX3_envelopeFault 2 = .ok (.aload_n 0, 1) := by decide +kernel
theorem dX3_envelopeFault_3 : decode cX3_envelopeFault 3 = .ok (.getfield 10, 3) := by decide +kernel
theorem dX3_envelopeFault_6 : decode cX3_envelopeFault 6 = .ok (.getfield 139, 3) := by decide +kernel
theorem dX3_envelopeFault_9 : decode cX3_envelopeFault 9 = .ok (.iconst 1, 1) := by decide +kernel
theorem dX3_envelopeFault_10 : decode cX3_envelopeFault 10 = .ok (.isub, 1) := by decide +kernel
theorem dX3_envelopeFault_11 : decode cX3_envelopeFault 11 = .ok (.invokestatic 96, 3) := by decide +kernel
theorem dX3_envelopeFault_14 : decode cX3_envelopeFault 14 = .ok (.ifCond .eq 7, 3) := by decide +kernel
theorem dX3_envelopeFault_17 : decode cX3_envelopeFault 17 = .ok (.iconst 0, 1) := by decide +kernel
theorem dX3_envelopeFault_18 : decode cX3_envelopeFault 18 = .ok (.goto 4, 3) := by decide +kernel
theorem dX3_envelopeFault_21 : decode cX3_envelopeFault 21 = .ok (.iconst 1, 1) := by decide +kernel
theorem dX3_envelopeFault_22 : decode cX3_envelopeFault 22 = .ok (.ireturn, 1) := by decide +kernel
theorem dX3_innAndBodyFault_0 : decode cX3_innAndBodyFault 0 = .ok (.iload_n 0, 1) := by decide +kernel
theorem dX3_innAndBodyFault_1 : decode cX3_innAndBodyFault 1 = .ok (.invokestatic 30, 3) := by decide +kernel
theorem dX3_innAndBodyFault_4 : decode cX3_innAndBodyFault 4 = .ok (.ifCond .eq 5, 3) := by decide +kernel
theorem dX3_innAndBodyFault_7 : decode cX3_innAndBodyFault 7 = .ok (.iconst 1, 1) := by decide +kernel
theorem dX3_innAndBodyFault_8 : decode cX3_innAndBodyFault 8 = .ok (.ireturn, 1) := by decide +kernel
theorem dX3_innAndBodyFault_9 : decode cX3_innAndBodyFault 9 = .ok (.iload_n 1, 1) := by decide +kernel
theorem dX3_innAndBodyFault_10 : decode cX3_innAndBodyFault 10 = .ok (.invokestatic 239, 3) := by decide +kernel
theorem dX3_innAndBodyFault_13 : decode cX3_innAndBodyFault 13 = .ok (.ifCond .eq 7, 3) := by decide +kernel
theorem dX3_innAndBodyFault_16 : decode cX3_innAndBodyFault 16 = .ok (.iconst 0, 1) := by decide +kernel
theorem dX3_innAndBodyFault_17 : decode cX3_innAndBodyFault 17 = .ok (.goto 4, 3) := by decide +kernel
theorem dX3_innAndBodyFault_20 : decode cX3_innAndBodyFault 20 = .ok (.iconst 2, 1) := by decide +kernel
theorem dX3_innAndBodyFault_21 : decode cX3_innAndBodyFault 21 = .ok (.ireturn, 1) := by decide +kernel
theorem dX3_layFault_0 : decode cX3_layFault 0 = .ok (.iload_n 1, 1) := by decide +kernel
theorem dX3_layFault_1 : decode cX3_layFault 1 = .ok (.invokestatic 30, 3) := by decide +kernel
theorem dX3_layFault_4 : decode cX3_layFault 4 = .ok (.ifCond .ne 25, 3) := by decide +kernel
theorem dX3_layFault_7 : decode cX3_layFault 7 = .ok (.iload_n 2, 1) := by decide +kernel
theorem dX3_layFault_8 : decode cX3_layFault 8 = .ok (.invokestatic 30, 3) := by decide +kernel
theorem dX3_layFault_11 : decode cX3_layFault 11 = .ok (.ifCond .ne 18, 3) := by decide +kernel
theorem dX3_layFault_14 : decode cX3_layFault 14 = .ok (.iload_n 3, 1) := by decide +kernel
theorem dX3_layFault_15 : decode cX3_layFault 15 = .ok (.invokestatic 30, 3) := by decide +kernel
theorem dX3_layFault_18 : decode cX3_layFault 18 = .ok (.ifCond .ne 11, 3) := by decide +kernel
theorem dX3_layFault_21 : decode cX3_layFault 21 = .ok (.iload 4, 2) := by decide +kernel
theorem dX3_layFault_23 : decode cX3_layFault 23 = .ok (.invokestatic 148, 3) := by decide +kernel
theorem dX3_layFault_26 : decode cX3_layFault 26 = .ok (.ifCond .eq 5, 3) := by decide +kernel
theorem dX3_layFault_29 : decode cX3_layFault 29 = .ok (.iconst 1, 1) := by decide +kernel
theorem dX3_layFault_30 : decode cX3_layFault 30 = .ok (.ireturn, 1) := by decide +kernel
theorem dX3_layFault_31 : decode cX3_layFault 31 = .ok (.iload_n 1, 1) := by decide +kernel
theorem dX3_layFault_32 : decode cX3_layFault 32 = .ok (.iload_n 2, 1) := by decide +kernel
theorem dX3_layFault_33 : decode cX3_layFault 33 = .ok (.if_icmp .eq 13, 3) := by decide +kernel
theorem dX3_layFault_36 : decode cX3_layFault 36 = .ok (.iload_n 1, 1) := by decide +kernel
theorem dX3_layFault_37 : decode cX3_layFault 37 = .ok (.iload_n 3, 1) := by decide +kernel
theorem dX3_layFault_38 : decode cX3_layFault 38 = .ok (.if_icmp .eq 8, 3) := by decide +kernel
theorem dX3_layFault_41 : decode cX3_layFault 41 = .ok (.iload_n 2, 1) := by decide +kernel
theorem dX3_layFault_42 : decode cX3_layFault 42 = .ok (.iload_n 3, 1) := by decide +kernel
theorem dX3_layFault_43 : decode cX3_layFault 43 = .ok (.if_icmp .ne 5, 3) := by decide +kernel
theorem dX3_layFault_46 : decode cX3_layFault 46 = .ok (.iconst 2, 1) := by decide +kernel
theorem dX3_layFault_47 : decode cX3_layFault 47 = .ok (.ireturn, 1) := by decide +kernel
theorem dX3_layFault_48 : decode cX3_layFault 48 = .ok (.aload_n 0, 1) := by decide +kernel
theorem dX3_layFault_49 : decode cX3_layFault 49 = .ok (.getfield 10, 3) := by decide +kernel
theorem dX3_layFault_52 : decode cX3_layFault 52 = .ok (.iload_n 1, 1) := by decide +kernel
theorem dX3_layFault_53 : decode cX3_layFault 53 = .ok (.invokevirtual 42, 3) := by decide +kernel
theorem dX3_layFault_56 : decode cX3_layFault 56 = .ok (.ifCond .eq 29, 3) := by decide +kernel
theorem dX3_layFault_59 : decode cX3_layFault 59 = .ok (.aload_n 0, 1) := by decide +kernel
theorem dX3_layFault_60 : decode cX3_layFault 60 = .ok (.getfield 10, 3) := by decide +kernel
theorem dX3_layFault_63 : decode cX3_layFault 63 = .ok (.iload_n 2, 1) := by decide +kernel
theorem dX3_layFault_64 : decode cX3_layFault 64 = .ok (.invokevirtual 42, 3) := by decide +kernel
theorem dX3_layFault_67 : decode cX3_layFault 67 = .ok (.ifCond .eq 18, 3) := by decide +kernel
theorem dX3_layFault_70 : decode cX3_layFault 70 = .ok (.aload_n 0, 1) := by decide +kernel
theorem dX3_layFault_71 : decode cX3_layFault 71 = .ok (.getfield 10, 3) := by decide +kernel
theorem dX3_layFault_74 : decode cX3_layFault 74 = .ok (.iload_n 3, 1) := by decide +kernel
theorem dX3_layFault_75 : decode cX3_layFault 75 = .ok (.invokevirtual 42, 3) := by decide +kernel
theorem dX3_layFault_78 : decode cX3_layFault 78 = .ok (.ifCond .eq 7, 3) := by decide +kernel
theorem dX3_layFault_81 : decode cX3_layFault 81 = .ok (.iconst 1, 1) := by decide +kernel
theorem dX3_layFault_82 : decode cX3_layFault 82 = .ok (.goto 4, 3) := by decide +kernel
theorem dX3_layFault_85 : decode cX3_layFault 85 = .ok (.iconst 0, 1) := by decide +kernel
theorem dX3_layFault_86 : decode cX3_layFault 86 = .ok (.istore 5, 2) := by decide +kernel
theorem dX3_layFault_88 : decode cX3_layFault 88 = .ok (.iload 5, 2) := by decide +kernel
theorem dX3_layFault_90 : decode cX3_layFault 90 = .ok (.ifCond .eq 19, 3) := by decide +kernel
theorem dX3_layFault_93 : decode cX3_layFault 93 = .ok (.aload_n 0, 1) := by decide +kernel
theorem dX3_layFault_94 : decode cX3_layFault 94 = .ok (.getfield 10, 3) := by decide +kernel
theorem dX3_layFault_97 : decode cX3_layFault 97 = .ok (.getfield 79, 3) := by decide +kernel
theorem dX3_layFault_100 : decode cX3_layFault 100 = .ok (.bipush 6, 2) := by decide +kernel
theorem dX3_layFault_102 : decode cX3_layFault 102 = .ok (.if_icmp .ge 7, 3) := by decide +kernel
theorem dX3_layFault_105 : decode cX3_layFault 105 = .ok (.iconst 0, 1) := by decide +kernel
theorem dX3_layFault_106 : decode cX3_layFault 106 = .ok (.goto 4, 3) := by decide +kernel
theorem dX3_layFault_109 : decode cX3_layFault 109 = .ok (.iconst 3, 1) := by decide +kernel
theorem dX3_layFault_110 : decode cX3_layFault 110 = .ok (.ireturn, 1) := by decide +kernel
theorem dX3_sendFault_0 : decode cX3_sendFault 0 = .ok (.aload_n 0, 1) := by decide +kernel
theorem dX3_sendFault_1 : decode cX3_sendFault 1 = .ok (.iload_n 1, 1) := by decide +kernel
theorem dX3_sendFault_2 : decode cX3_sendFault 2 = .ok (.invokevirtual 100, 3) := by decide +kernel
theorem dX3_sendFault_5 : decode cX3_sendFault 5 = .ok (.ifCond .eq 5, 3) := by decide +kernel
theorem dX3_sendFault_8 : decode cX3_sendFault 8 = .ok (.iconst 1, 1) := by decide +kernel
theorem dX3_sendFault_9 : decode cX3_sendFault 9 = .ok (.ireturn, 1) := by decide +kernel
theorem dX3_sendFault_10 : decode cX3_sendFault 10 = .ok (.iload_n 2, 1) := by decide +kernel
theorem dX3_sendFault_11 : decode cX3_sendFault 11 = .ok (.invokestatic 239, 3) := by decide +kernel
theorem dX3_sendFault_14 : decode cX3_sendFault 14 = .ok (.ifCond .ne 5, 3) := by decide +kernel
theorem dX3_sendFault_17 : decode cX3_sendFault 17 = .ok (.iconst 2, 1) := by decide +kernel
theorem dX3_sendFault_18 : decode cX3_sendFault 18 = .ok (.ireturn, 1) := by decide +kernel
theorem dX3_sendFault_19 : decode cX3_sendFault 19 = .ok (.aload_n 0, 1) := by decide +kernel
theorem dX3_sendFault_20 : decode cX3_sendFault 20 = .ok (.getfield 10, 3) := by decide +kernel
theorem dX3_sendFault_23 : decode cX3_sendFault 23 = .ok (.getfield 139, 3) := by decide +kernel
theorem dX3_sendFault_26 : decode cX3_sendFault 26 = .ok (.bipush 12, 2) := by decide +kernel
theorem dX3_sendFault_28 : decode cX3_sendFault 28 = .ok (.if_icmp .ge 7, 3) := by decide +kernel
theorem dX3_sendFault_31 : decode cX3_sendFault 31 = .ok (.iconst 0, 1) := by decide +kernel
theorem dX3_sendFault_32 : decode cX3_sendFault 32 = .ok (.goto 4, 3) := by decide +kernel
theorem dX3_sendFault_35 : decode cX3_sendFault 35 = .ok (.iconst 3, 1) := by decide +kernel
theorem dX3_sendFault_36 : decode cX3_sendFault 36 = .ok (.ireturn, 1) := by decide +kernel
theorem dX3_answerFault_0 : decode cX3_answerFault 0 = .ok (.iload_n 1, 1) := by decide +kernel
theorem dX3_answerFault_1 : decode cX3_answerFault 1 = .ok (.invokestatic 148, 3) := by decide +kernel
theorem dX3_answerFault_4 : decode cX3_answerFault 4 = .ok (.ifCond .eq 5, 3) := by decide +kernel
theorem dX3_answerFault_7 : decode cX3_answerFault 7 = .ok (.iconst 1, 1) := by decide +kernel
theorem dX3_answerFault_8 : decode cX3_answerFault 8 = .ok (.ireturn, 1) := by decide +kernel
theorem dX3_answerFault_9 : decode cX3_answerFault 9 = .ok (.iload_n 2, 1) := by decide +kernel
theorem dX3_answerFault_10 : decode cX3_answerFault 10 = .ok (.invokestatic 239, 3) := by decide +kernel
theorem dX3_answerFault_13 : decode cX3_answerFault 13 = .ok (.ifCond .ne 5, 3) := by decide +kernel
theorem dX3_answerFault_16 : decode cX3_answerFault 16 = .ok (.iconst 2, 1) := by decide +kernel
theorem dX3_answerFault_17 : decode cX3_answerFault 17 = .ok (.ireturn, 1) := by decide +kernel
theorem dX3_answerFault_18 : decode cX3_answerFault 18 = .ok (.aload_n 0, 1) := by decide +kernel
theorem dX3_answerFault_19 : decode cX3_answerFault 19 = .ok (.getfield 10, 3) := by decide +kernel
theorem dX3_answerFault_22 : decode cX3_answerFault 22 = .ok (.getfield 242, 3) := by decide +kernel
theorem dX3_answerFault_25 : decode cX3_answerFault 25 = .ok (.iload_n 1, 1) := by decide +kernel
theorem dX3_answerFault_26 : decode cX3_answerFault 26 = .ok (.invokestatic 58, 3) := by decide +kernel
theorem dX3_answerFault_29 : decode cX3_answerFault 29 = .ok (.iconst (-1), 1) := by decide +kernel
theorem dX3_answerFault_30 : decode cX3_answerFault 30 = .ok (.if_icmp .eq 7, 3) := by decide +kernel
theorem dX3_answerFault_33 : decode cX3_answerFault 33 = .ok (.iconst 1, 1) := by decide +kernel
theorem dX3_answerFault_34 : decode cX3_answerFault 34 = .ok (.goto 4, 3) := by decide +kernel
theorem dX3_answerFault_37 : decode cX3_answerFault 37 = .ok (.iconst 0, 1) := by decide +kernel
theorem dX3_answerFault_38 : decode cX3_answerFault 38 = .ok (.istore_n 3, 1) := by decide +kernel
theorem dX3_answerFault_39 : decode cX3_answerFault 39 = .ok (.iload_n 3, 1) := by decide +kernel
theorem dX3_answerFault_40 : decode cX3_answerFault 40 = .ok (.ifCond .eq 19, 3) := by decide +kernel
theorem dX3_answerFault_43 : decode cX3_answerFault 43 = .ok (.aload_n 0, 1) := by decide +kernel
theorem dX3_answerFault_44 : decode cX3_answerFault 44 = .ok (.getfield 10, 3) := by decide +kernel
theorem dX3_answerFault_47 : decode cX3_answerFault 47 = .ok (.getfield 139, 3) := by decide +kernel
theorem dX3_answerFault_50 : decode cX3_answerFault 50 = .ok (.bipush 12, 2) := by decide +kernel
theorem dX3_answerFault_52 : decode cX3_answerFault 52 = .ok (.if_icmp .ge 7, 3) := by decide +kernel
theorem dX3_answerFault_55 : decode cX3_answerFault 55 = .ok (.iconst 0, 1) := by decide +kernel
theorem dX3_answerFault_56 : decode cX3_answerFault 56 = .ok (.goto 4, 3) := by decide +kernel
theorem dX3_answerFault_59 : decode cX3_answerFault 59 = .ok (.iconst 3, 1) := by decide +kernel
theorem dX3_answerFault_60 : decode cX3_answerFault 60 = .ok (.ireturn, 1) := by decide +kernel
theorem dX3_mixed_0 : decode cX3_mixed 0 = .ok (.ldc2_w 261, 3) := by decide +kernel
theorem dX3_mixed_3 : decode cX3_mixed 3 = .ok (.lload_n 0, 1) := by decide +kernel
theorem dX3_mixed_4 : decode cX3_mixed 4 = .ok (.lmul, 1) := by decide +kernel
theorem dX3_mixed_5 : decode cX3_mixed 5 = .ok (.iload_n 2, 1) := by decide +kernel
theorem dX3_mixed_6 : decode cX3_mixed 6 = .ok (.i2l, 1) := by decide +kernel
theorem dX3_mixed_7 : decode cX3_mixed 7 = .ok (.ladd, 1) := by decide +kernel
theorem dX3_mixed_8 : decode cX3_mixed 8 = .ok (.lreturn, 1) := by decide +kernel
theorem dX3_mixedRow_0 : decode cX3_mixedRow 0 = .ok (.lload_n 0, 1) := by decide +kernel
theorem dX3_mixedRow_1 : decode cX3_mixedRow 1 = .ok (.lstore_n 3, 1) := by decide +kernel
theorem dX3_mixedRow_2 : decode cX3_mixedRow 2 = .ok (.iconst 0, 1) := by decide +kernel
theorem dX3_mixedRow_3 : decode cX3_mixedRow 3 = .ok (.istore 5, 2) := by decide +kernel
theorem dX3_mixedRow_5 : decode cX3_mixedRow 5 = .ok (.iload 5, 2) := by decide +kernel
theorem dX3_mixedRow_7 : decode cX3_mixedRow 7 = .ok (.aload_n 2, 1) := by decide +kernel
theorem dX3_mixedRow_8 : decode cX3_mixedRow 8 = .ok (.arraylength, 1) := by decide +kernel
theorem dX3_mixedRow_9 : decode cX3_mixedRow 9 = .ok (.if_icmp .ge 18, 3) := by decide +kernel
theorem dX3_mixedRow_12 : decode cX3_mixedRow 12 = .ok (.lload_n 3, 1) := by decide +kernel
theorem dX3_mixedRow_13 : decode cX3_mixedRow 13 = .ok (.aload_n 2, 1) := by decide +kernel
theorem dX3_mixedRow_14 : decode cX3_mixedRow 14 = .ok (.iload 5, 2) := by decide +kernel
theorem dX3_mixedRow_16 : decode cX3_mixedRow 16 = .ok (.iaload, 1) := by decide +kernel
theorem dX3_mixedRow_17 : decode cX3_mixedRow 17 = .ok (.invokestatic 212, 3) := by decide +kernel
theorem dX3_mixedRow_20 : decode cX3_mixedRow 20 = .ok (.lstore_n 3, 1) := by decide +kernel
theorem dX3_mixedRow_21 : decode cX3_mixedRow 21 = .ok (.iinc 5 1, 3) := by decide +kernel
theorem dX3_mixedRow_24 : decode cX3_mixedRow 24 = .ok (.goto (-19), 3) := by decide +kernel
theorem dX3_mixedRow_27 : decode cX3_mixedRow 27 = .ok (.lload_n 3, 1) := by decide +kernel
theorem dX3_mixedRow_28 : decode cX3_mixedRow 28 = .ok (.lreturn, 1) := by decide +kernel
theorem dX3_mixedInns_0 : decode cX3_mixedInns 0 = .ok (.lload_n 1, 1) := by decide +kernel
theorem dX3_mixedInns_1 : decode cX3_mixedInns 1 = .ok (.lstore_n 3, 1) := by decide +kernel
theorem dX3_mixedInns_2 : decode cX3_mixedInns 2 = .ok (.iconst 0, 1) := by decide +kernel
theorem dX3_mixedInns_3 : decode cX3_mixedInns 3 = .ok (.istore 5, 2) := by decide +kernel
theorem dX3_mixedInns_5 : decode cX3_mixedInns 5 = .ok (.iload 5, 2) := by decide +kernel
theorem dX3_mixedInns_7 : decode cX3_mixedInns 7 = .ok (.bipush 8, 2) := by decide +kernel
theorem dX3_mixedInns_9 : decode cX3_mixedInns 9 = .ok (.if_icmp .ge 76, 3) := by decide +kernel
theorem dX3_mixedInns_12 : decode cX3_mixedInns 12 = .ok (.lload_n 3, 1) := by decide +kernel
theorem dX3_mixedInns_13 : decode cX3_mixedInns 13 = .ok (.aload_n 0, 1) := by decide +kernel
theorem dX3_mixedInns_14 : decode cX3_mixedInns 14 = .ok (.getfield 10, 3) := by decide +kernel
theorem dX3_mixedInns_17 : decode cX3_mixedInns 17 = .ok (.iload 5, 2) := by decide +kernel
theorem dX3_mixedInns_19 : decode cX3_mixedInns 19 = .ok (.invokevirtual 42, 3) := by decide +kernel
theorem dX3_mixedInns_22 : decode cX3_mixedInns 22 = .ok (.ifCond .eq 7, 3) := by decide +kernel
theorem dX3_mixedInns_25 : decode cX3_mixedInns 25 = .ok (.iconst 1, 1) := by decide +kernel
theorem dX3_mixedInns_26 : decode cX3_mixedInns 26 = .ok (.goto 4, 3) := by decide +kernel
theorem dX3_mixedInns_29 : decode cX3_mixedInns 29 = .ok (.iconst 0, 1) := by decide +kernel
theorem dX3_mixedInns_30 : decode cX3_mixedInns 30 = .ok (.invokestatic 212, 3) := by decide +kernel
theorem dX3_mixedInns_33 : decode cX3_mixedInns 33 = .ok (.lstore_n 3, 1) := by decide +kernel
theorem dX3_mixedInns_34 : decode cX3_mixedInns 34 = .ok (.lload_n 3, 1) := by decide +kernel
theorem dX3_mixedInns_35 : decode cX3_mixedInns 35 = .ok (.aload_n 0, 1) := by decide +kernel
theorem dX3_mixedInns_36 : decode cX3_mixedInns 36 = .ok (.getfield 10, 3) := by decide +kernel
theorem dX3_mixedInns_39 : decode cX3_mixedInns 39 = .ok (.getfield 54, 3) := by decide +kernel
theorem dX3_mixedInns_42 : decode cX3_mixedInns 42 = .ok (.iload 5, 2) := by decide +kernel
theorem dX3_mixedInns_44 : decode cX3_mixedInns 44 = .ok (.invokestatic 58, 3) := by decide +kernel
theorem dX3_mixedInns_47 : decode cX3_mixedInns 47 = .ok (.invokestatic 212, 3) := by decide +kernel
theorem dX3_mixedInns_50 : decode cX3_mixedInns 50 = .ok (.lstore_n 3, 1) := by decide +kernel
theorem dX3_mixedInns_51 : decode cX3_mixedInns 51 = .ok (.lload_n 3, 1) := by decide +kernel
theorem dX3_mixedInns_52 : decode cX3_mixedInns 52 = .ok (.aload_n 0, 1) := by decide +kernel
theorem dX3_mixedInns_53 : decode cX3_mixedInns 53 = .ok (.getfield 10, 3) := by decide +kernel
theorem dX3_mixedInns_56 : decode cX3_mixedInns 56 = .ok (.iload 5, 2) := by decide +kernel
theorem dX3_mixedInns_58 : decode cX3_mixedInns 58 = .ok (.invokevirtual 116, 3) := by decide +kernel
theorem dX3_mixedInns_61 : decode cX3_mixedInns 61 = .ok (.invokestatic 212, 3) := by decide +kernel
theorem dX3_mixedInns_64 : decode cX3_mixedInns 64 = .ok (.lstore_n 3, 1) := by decide +kernel
theorem dX3_mixedInns_65 : decode cX3_mixedInns 65 = .ok (.lload_n 3, 1) := by decide +kernel
theorem dX3_mixedInns_66 : decode cX3_mixedInns 66 = .ok (.aload_n 0, 1) := by decide +kernel
theorem dX3_mixedInns_67 : decode cX3_mixedInns 67 = .ok (.getfield 10, 3) := by decide +kernel
theorem dX3_mixedInns_70 : decode cX3_mixedInns 70 = .ok (.iload 5, 2) := by decide +kernel
theorem dX3_mixedInns_72 : decode cX3_mixedInns 72 = .ok (.invokevirtual 160, 3) := by decide +kernel
theorem dX3_mixedInns_75 : decode cX3_mixedInns 75 = .ok (.invokestatic 212, 3) := by decide +kernel
theorem dX3_mixedInns_78 : decode cX3_mixedInns 78 = .ok (.lstore_n 3, 1) := by decide +kernel
theorem dX3_mixedInns_79 : decode cX3_mixedInns 79 = .ok (.iinc 5 1, 3) := by decide +kernel
theorem dX3_mixedInns_82 : decode cX3_mixedInns 82 = .ok (.goto (-77), 3) := by decide +kernel
theorem dX3_mixedInns_85 : decode cX3_mixedInns 85 = .ok (.lload_n 3, 1) := by decide +kernel
theorem dX3_mixedInns_86 : decode cX3_mixedInns 86 = .ok (.lreturn, 1) := by decide +kernel
theorem dX3_mixedRoads_0 : decode cX3_mixedRoads 0 = .ok (.lload_n 1, 1) := by decide +kernel
theorem dX3_mixedRoads_1 : decode cX3_mixedRoads 1 = .ok (.lstore_n 3, 1) := by decide +kernel
theorem dX3_mixedRoads_2 : decode cX3_mixedRoads 2 = .ok (.iconst 0, 1) := by decide +kernel
theorem dX3_mixedRoads_3 : decode cX3_mixedRoads 3 = .ok (.istore 5, 2) := by decide +kernel
theorem dX3_mixedRoads_5 : decode cX3_mixedRoads 5 = .ok (.iload 5, 2) := by decide +kernel
theorem dX3_mixedRoads_7 : decode cX3_mixedRoads 7 = .ok (.aload_n 0, 1) := by decide +kernel
theorem dX3_mixedRoads_8 : decode cX3_mixedRoads 8 = .ok (.getfield 10, 3) := by decide +kernel
theorem dX3_mixedRoads_11 : decode cX3_mixedRoads 11 = .ok (.getfield 79, 3) := by decide +kernel
theorem dX3_mixedRoads_14 : decode cX3_mixedRoads 14 = .ok (.if_icmp .ge 79, 3) := by decide +kernel
theorem dX3_mixedRoads_17 : decode cX3_mixedRoads 17 = .ok (.iconst 1, 1) := by decide +kernel
theorem dX3_mixedRoads_18 : decode cX3_mixedRoads 18 = .ok (.istore 6, 2) := by decide +kernel
theorem dX3_mixedRoads_20 : decode cX3_mixedRoads 20 = .ok (.iload 6, 2) := by decide +kernel
theorem dX3_mixedRoads_22 : decode cX3_mixedRoads 22 = .ok (.iconst 3, 1) := by decide +kernel
theorem dX3_mixedRoads_23 : decode cX3_mixedRoads 23 = .ok (.if_icmp .gt 25, 3) := by decide +kernel
theorem dX3_mixedRoads_26 : decode cX3_mixedRoads 26 = .ok (.lload_n 3, 1) := by decide +kernel
theorem dX3_mixedRoads_27 : decode cX3_mixedRoads 27 = .ok (.aload_n 0, 1) := by decide +kernel
theorem dX3_mixedRoads_28 : decode cX3_mixedRoads 28 = .ok (.getfield 10, 3) := by decide +kernel
theorem dX3_mixedRoads_31 : decode cX3_mixedRoads 31 = .ok (.iload 5, 2) := by decide +kernel
theorem dX3_mixedRoads_33 : decode cX3_mixedRoads 33 = .ok (.iload 6, 2) := by decide +kernel
theorem dX3_mixedRoads_35 : decode cX3_mixedRoads 35 = .ok (.invokevirtual 103, 3) := by decide +kernel
theorem dX3_mixedRoads_38 : decode cX3_mixedRoads 38 = .ok (.invokestatic 212, 3) := by decide +kernel
theorem dX3_mixedRoads_41 : decode cX3_mixedRoads 41 = .ok (.lstore_n 3, 1) := by decide +kernel
theorem dX3_mixedRoads_42 : decode cX3_mixedRoads 42 = .ok (.iinc 6 1, 3) := by decide +kernel
theorem dX3_mixedRoads_45 : decode cX3_mixedRoads 45 = .ok (.goto (-25), 3) := by decide +kernel
theorem dX3_mixedRoads_48 : decode cX3_mixedRoads 48 = .ok (.lload_n 3, 1) := by decide +kernel
theorem dX3_mixedRoads_49 : decode cX3_mixedRoads 49 = .ok (.aload_n 0, 1) := by decide +kernel
theorem dX3_mixedRoads_50 : decode cX3_mixedRoads 50 = .ok (.getfield 10, 3) := by decide +kernel
theorem dX3_mixedRoads_53 : decode cX3_mixedRoads 53 = .ok (.getfield 106, 3) := by decide +kernel
theorem dX3_mixedRoads_56 : decode cX3_mixedRoads 56 = .ok (.iload 5, 2) := by decide +kernel
theorem dX3_mixedRoads_58 : decode cX3_mixedRoads 58 = .ok (.invokestatic 58, 3) := by decide +kernel
theorem dX3_mixedRoads_61 : decode cX3_mixedRoads 61 = .ok (.invokestatic 212, 3) := by decide +kernel
theorem dX3_mixedRoads_64 : decode cX3_mixedRoads 64 = .ok (.lstore_n 3, 1) := by decide +kernel
theorem dX3_mixedRoads_65 : decode cX3_mixedRoads 65 = .ok (.lload_n 3, 1) := by decide +kernel
theorem dX3_mixedRoads_66 : decode cX3_mixedRoads 66 = .ok (.aload_n 0, 1) := by decide +kernel
theorem dX3_mixedRoads_67 : decode cX3_mixedRoads 67 = .ok (.getfield 10, 3) := by decide +kernel
theorem dX3_mixedRoads_70 : decode cX3_mixedRoads 70 = .ok (.iload 5, 2) := by decide +kernel
theorem dX3_mixedRoads_72 : decode cX3_mixedRoads 72 = .ok (.invokevirtual 109, 3) := by decide +kernel
theorem dX3_mixedRoads_75 : decode cX3_mixedRoads 75 = .ok (.ifCond .eq 7, 3) := by decide +kernel
theorem dX3_mixedRoads_78 : decode cX3_mixedRoads 78 = .ok (.iconst 1, 1) := by decide +kernel
theorem dX3_mixedRoads_79 : decode cX3_mixedRoads 79 = .ok (.goto 4, 3) := by decide +kernel
theorem dX3_mixedRoads_82 : decode cX3_mixedRoads 82 = .ok (.iconst 0, 1) := by decide +kernel
theorem dX3_mixedRoads_83 : decode cX3_mixedRoads 83 = .ok (.invokestatic 212, 3) := by decide +kernel
theorem dX3_mixedRoads_86 : decode cX3_mixedRoads 86 = .ok (.lstore_n 3, 1) := by decide +kernel
theorem dX3_mixedRoads_87 : decode cX3_mixedRoads 87 = .ok (.iinc 5 1, 3) := by decide +kernel
theorem dX3_mixedRoads_90 : decode cX3_mixedRoads 90 = .ok (.goto (-85), 3) := by decide +kernel
theorem dX3_mixedRoads_93 : decode cX3_mixedRoads 93 = .ok (.lload_n 3, 1) := by decide +kernel
theorem dX3_mixedRoads_94 : decode cX3_mixedRoads 94 = .ok (.lreturn, 1) := by decide +kernel
theorem dX3_mixedEnvelopes_0 : decode cX3_mixedEnvelopes 0 = .ok (.lload_n 1, 1) := by decide +kernel
theorem dX3_mixedEnvelopes_1 : decode cX3_mixedEnvelopes 1 = .ok (.lstore_n 3, 1) := by decide +kernel
theorem dX3_mixedEnvelopes_2 : decode cX3_mixedEnvelopes 2 = .ok (.iconst 0, 1) := by decide +kernel
theorem dX3_mixedEnvelopes_3 : decode cX3_mixedEnvelopes 3 = .ok (.istore 5, 2) := by decide +kernel
theorem dX3_mixedEnvelopes_5 : decode cX3_mixedEnvelopes 5 = .ok (.iload 5, 2) := by decide +kernel
theorem dX3_mixedEnvelopes_7 : decode cX3_mixedEnvelopes 7 = .ok (.aload_n 0, 1) := by decide +kernel
theorem dX3_mixedEnvelopes_8 : decode cX3_mixedEnvelopes 8 = .ok (.getfield 10, 3) := by decide +kernel
theorem dX3_mixedEnvelopes_11 : decode cX3_mixedEnvelopes 11 = .ok (.getfield 139, 3) := by decide +kernel
theorem dX3_mixedEnvelopes_14 : decode cX3_mixedEnvelopes 14 = .ok (.if_icmp .ge 61, 3) := by decide +kernel
theorem dX3_mixedEnvelopes_17 : decode cX3_mixedEnvelopes 17 = .ok (.iconst 0, 1) := by decide +kernel
theorem dX3_mixedEnvelopes_18 : decode cX3_mixedEnvelopes 18 = .ok (.istore 6, 2) := by decide +kernel
theorem dX3_mixedEnvelopes_20 : decode cX3_mixedEnvelopes 20 = .ok (.iload 6, 2) := by decide +kernel
theorem dX3_mixedEnvelopes_22 : decode cX3_mixedEnvelopes 22 = .ok (.iconst 4, 1) := by decide +kernel
theorem dX3_mixedEnvelopes_23 : decode cX3_mixedEnvelopes 23 = .ok (.if_icmp .ge 25, 3) := by decide +kernel
theorem dX3_mixedEnvelopes_26 : decode cX3_mixedEnvelopes 26 = .ok (.lload_n 3, 1) := by decide +kernel
theorem dX3_mixedEnvelopes_27 : decode cX3_mixedEnvelopes 27 = .ok (.aload_n 0, 1) := by decide +kernel
theorem dX3_mixedEnvelopes_28 : decode cX3_mixedEnvelopes 28 = .ok (.getfield 10, 3) := by decide +kernel
theorem dX3_mixedEnvelopes_31 : decode cX3_mixedEnvelopes 31 = .ok (.iload 5, 2) := by decide +kernel
theorem dX3_mixedEnvelopes_33 : decode cX3_mixedEnvelopes 33 = .ok (.iload 6, 2) := by decide +kernel
theorem dX3_mixedEnvelopes_35 : decode cX3_mixedEnvelopes 35 = .ok (.invokevirtual 145, 3) := by decide +kernel
theorem dX3_mixedEnvelopes_38 : decode cX3_mixedEnvelopes 38 = .ok (.invokestatic 212, 3) := by decide +kernel
theorem dX3_mixedEnvelopes_41 : decode cX3_mixedEnvelopes 41 = .ok (.lstore_n 3, 1) := by decide +kernel
theorem dX3_mixedEnvelopes_42 : decode cX3_mixedEnvelopes 42 = .ok (.iinc 6 1, 3) := by decide +kernel
theorem dX3_mixedEnvelopes_45 : decode cX3_mixedEnvelopes 45 = .ok (.goto (-25), 3) := by decide +kernel
theorem dX3_mixedEnvelopes_48 : decode cX3_mixedEnvelopes 48 = .ok (.lload_n 3, 1) := by decide +kernel
theorem dX3_mixedEnvelopes_49 : decode cX3_mixedEnvelopes 49 = .ok (.aload_n 0, 1) := by decide +kernel
theorem dX3_mixedEnvelopes_50 : decode cX3_mixedEnvelopes 50 = .ok (.getfield 10, 3) := by decide +kernel
theorem dX3_mixedEnvelopes_53 : decode cX3_mixedEnvelopes 53 = .ok (.iload 5, 2) := by decide +kernel
theorem dX3_mixedEnvelopes_55 : decode cX3_mixedEnvelopes 55 = .ok (.aload_n 0, 1) := by decide +kernel
theorem dX3_mixedEnvelopes_56 : decode cX3_mixedEnvelopes 56 = .ok (.getfield 10, 3) := by decide +kernel
theorem dX3_mixedEnvelopes_59 : decode cX3_mixedEnvelopes 59 = .ok (.getfield 163, 3) := by decide +kernel
theorem dX3_mixedEnvelopes_62 : decode cX3_mixedEnvelopes 62 = .ok (.invokevirtual 166, 3) := by decide +kernel
theorem dX3_mixedEnvelopes_65 : decode cX3_mixedEnvelopes 65 = .ok (.invokestatic 212, 3) := by decide +kernel
theorem dX3_mixedEnvelopes_68 : decode cX3_mixedEnvelopes 68 = .ok (.lstore_n 3, 1) := by decide +kernel
theorem dX3_mixedEnvelopes_69 : decode cX3_mixedEnvelopes 69 = .ok (.iinc 5 1, 3) := by decide +kernel
theorem dX3_mixedEnvelopes_72 : decode cX3_mixedEnvelopes 72 = .ok (.goto (-67), 3) := by decide +kernel
theorem dX3_mixedEnvelopes_75 : decode cX3_mixedEnvelopes 75 = .ok (.lload_n 3, 1) := by decide +kernel
theorem dX3_mixedEnvelopes_76 : decode cX3_mixedEnvelopes 76 = .ok (.lreturn, 1) := by decide +kernel
theorem dX3_isBetween_0 : decode cX3_isBetween 0 = .ok (.iload_n 0, 1) := by decide +kernel
theorem dX3_isBetween_1 : decode cX3_isBetween 1 = .ok (.iload_n 1, 1) := by decide +kernel
theorem dX3_isBetween_2 : decode cX3_isBetween 2 = .ok (.if_icmp .lt 12, 3) := by decide +kernel
theorem dX3_isBetween_5 : decode cX3_isBetween 5 = .ok (.iload_n 0, 1) := by decide +kernel
theorem dX3_isBetween_6 : decode cX3_isBetween 6 = .ok (.iload_n 2, 1) := by decide +kernel
theorem dX3_isBetween_7 : decode cX3_isBetween 7 = .ok (.if_icmp .gt 7, 3) := by decide +kernel
theorem dX3_isBetween_10 : decode cX3_isBetween 10 = .ok (.iconst 1, 1) := by decide +kernel
theorem dX3_isBetween_11 : decode cX3_isBetween 11 = .ok (.goto 4, 3) := by decide +kernel
theorem dX3_isBetween_14 : decode cX3_isBetween 14 = .ok (.iconst 0, 1) := by decide +kernel
theorem dX3_isBetween_15 : decode cX3_isBetween 15 = .ok (.ireturn, 1) := by decide +kernel
theorem dX3_isBody_0 : decode cX3_isBody 0 = .ok (.iload_n 0, 1) := by decide +kernel
theorem dX3_isBody_1 : decode cX3_isBody 1 = .ok (.iconst 0, 1) := by decide +kernel
theorem dX3_isBody_2 : decode cX3_isBody 2 = .ok (.sipush 9999, 3) := by decide +kernel
theorem dX3_isBody_5 : decode cX3_isBody 5 = .ok (.invokestatic 96, 3) := by decide +kernel
theorem dX3_isBody_8 : decode cX3_isBody 8 = .ok (.ireturn, 1) := by decide +kernel
theorem dX3_covered_0 : decode cX3_covered 0 = .ok (.bipush 7, 2) := by decide +kernel
theorem dX3_covered_2 : decode cX3_covered 2 = .ok (.iload_n 0, 1) := by decide +kernel
theorem dX3_covered_3 : decode cX3_covered 3 = .ok (.imul, 1) := by decide +kernel
theorem dX3_covered_4 : decode cX3_covered 4 = .ok (.iload_n 1, 1) := by decide +kernel
theorem dX3_covered_5 : decode cX3_covered 5 = .ok (.iadd, 1) := by decide +kernel
theorem dX3_covered_6 : decode cX3_covered 6 = .ok (.sipush 10000, 3) := by decide +kernel
theorem dX3_covered_9 : decode cX3_covered 9 = .ok (.invokestatic 263, 3) := by decide +kernel
theorem dX3_covered_12 : decode cX3_covered 12 = .ok (.ireturn, 1) := by decide +kernel
theorem dX3_uncovered_0 : decode cX3_uncovered 0 = .ok (.sipush 7143, 3) := by decide +kernel
theorem dX3_uncovered_3 : decode cX3_uncovered 3 = .ok (.iload_n 0, 1) := by decide +kernel
theorem dX3_uncovered_4 : decode cX3_uncovered 4 = .ok (.iload_n 1, 1) := by decide +kernel
theorem dX3_uncovered_5 : decode cX3_uncovered 5 = .ok (.isub, 1) := by decide +kernel
theorem dX3_uncovered_6 : decode cX3_uncovered 6 = .ok (.imul, 1) := by decide +kernel
theorem dX3_uncovered_7 : decode cX3_uncovered 7 = .ok (.sipush 10000, 3) := by decide +kernel
theorem dX3_uncovered_10 : decode cX3_uncovered 10 = .ok (.invokestatic 263, 3) := by decide +kernel
theorem dX3_uncovered_13 : decode cX3_uncovered 13 = .ok (.ireturn, 1) := by decide +kernel
theorem dX3_read_0 : decode cX3_read 0 = .ok (.iload_n 1, 1) := by decide +kernel
theorem dX3_read_1 : decode cX3_read 1 = .ok (.ifCond .lt 15, 3) := by decide +kernel
theorem dX3_read_4 : decode cX3_read 4 = .ok (.iload_n 1, 1) := by decide +kernel
theorem dX3_read_5 : decode cX3_read 5 = .ok (.aload_n 0, 1) := by decide +kernel
theorem dX3_read_6 : decode cX3_read 6 = .ok (.arraylength, 1) := by decide +kernel
theorem dX3_read_7 : decode cX3_read 7 = .ok (.if_icmp .ge 9, 3) := by decide +kernel
theorem dX3_read_10 : decode cX3_read 10 = .ok (.aload_n 0, 1) := by decide +kernel
theorem dX3_read_11 : decode cX3_read 11 = .ok (.iload_n 1, 1) := by decide +kernel
theorem dX3_read_12 : decode cX3_read 12 = .ok (.iaload, 1) := by decide +kernel
theorem dX3_read_13 : decode cX3_read 13 = .ok (.goto 4, 3) := by decide +kernel
theorem dX3_read_16 : decode cX3_read 16 = .ok (.iconst 0, 1) := by decide +kernel
theorem dX3_read_17 : decode cX3_read 17 = .ok (.ireturn, 1) := by decide +kernel
theorem dX3_write_0 : decode cX3_write 0 = .ok (.iload_n 1, 1) := by decide +kernel
theorem dX3_write_1 : decode cX3_write 1 = .ok (.ifCond .lt 13, 3) := by decide +kernel
theorem dX3_write_4 : decode cX3_write 4 = .ok (.iload_n 1, 1) := by decide +kernel
theorem dX3_write_5 : decode cX3_write 5 = .ok (.aload_n 0, 1) := by decide +kernel
theorem dX3_write_6 : decode cX3_write 6 = .ok (.arraylength, 1) := by decide +kernel
theorem dX3_write_7 : decode cX3_write 7 = .ok (.if_icmp .ge 7, 3) := by decide +kernel
theorem dX3_write_10 : decode cX3_write 10 = .ok (.aload_n 0, 1) := by decide +kernel
theorem dX3_write_11 : decode cX3_write 11 = .ok (.iload_n 1, 1) := by decide +kernel
theorem dX3_write_12 : decode cX3_write 12 = .ok (.iload_n 2, 1) := by decide +kernel
theorem dX3_write_13 : decode cX3_write 13 = .ok (.iastore, 1) := by decide +kernel
theorem dX3_write_14 : decode cX3_write 14 = .ok (.return_, 1) := by decide +kernel
theorem dX3_copyRow_0 : decode cX3_copyRow 0 = .ok (.aload_n 0, 1) := by decide +kernel
theorem dX3_copyRow_1 : decode cX3_copyRow 1 = .ok (.iconst 0, 1) := by decide +kernel
theorem dX3_copyRow_2 : decode cX3_copyRow 2 = .ok (.aload_n 1, 1) := by decide +kernel
theorem dX3_copyRow_3 : decode cX3_copyRow 3 = .ok (.iconst 0, 1) := by decide +kernel
theorem dX3_copyRow_4 : decode cX3_copyRow 4 = .ok (.aload_n 0, 1) := by decide +kernel
theorem dX3_copyRow_5 : decode cX3_copyRow 5 = .ok (.arraylength, 1) := by decide +kernel
theorem dX3_copyRow_6 : decode cX3_copyRow 6 = .ok (.aload_n 1, 1) := by decide +kernel
theorem dX3_copyRow_7 : decode cX3_copyRow 7 = .ok (.arraylength, 1) := by decide +kernel
theorem dX3_copyRow_8 : decode cX3_copyRow 8 = .ok (.invokestatic 268, 3) := by decide +kernel
theorem dX3_copyRow_11 : decode cX3_copyRow 11 = .ok (.invokestatic 271, 3) := by decide +kernel
theorem dX3_copyRow_14 : decode cX3_copyRow 14 = .ok (.return_, 1) := by decide +kernel
