theorem dX0_init_0 : decode cX0_init 0 = .ok (.aload_n 0, 1) := by decide +kernel
theorem dX0_init_1 : decode cX0_init 1 = .ok (.invokespecial 3, 3) := by decide +kernel
theorem dX0_init_4 : decode cX0_init 4 = .ok (.aload_n 0, 1) := by decide +kernel
theorem dX0_init_5 : decode cX0_init 5 = .ok (.sipush 2400, 3) := by decide +kernel
theorem dX0_init_8 : decode cX0_init 8 = .ok (.newarray .int, 2) := by decide +kernel
theorem dX0_init_10 : decode cX0_init 10 = .ok (.putfield 9, 3) := by decide +kernel
theorem dX0_init_13 : decode cX0_init 13 = .ok (.aload_n 0, 1) := by decide +kernel
theorem dX0_init_14 : decode cX0_init 14 = .ok (.new 15, 3) := by decide +kernel
theorem dX0_init_17 : decode cX0_init 17 = .ok (.dup, 1) := by decide +kernel
theorem dX0_init_18 : decode cX0_init 18 = .ok (.invokespecial 17, 3) := by decide +kernel
theorem dX0_init_21 : decode cX0_init 21 = .ok (.putfield 18, 3) := by decide +kernel
theorem dX0_init_24 : decode cX0_init 24 = .ok (.return_, 1) := by decide +kernel
theorem dX0_write_0 : decode cX0_write 0 = .ok (.iload_n 1, 1) := by decide +kernel
theorem dX0_write_1 : decode cX0_write 1 = .ok (.ifCond .lt 31, 3) := by decide +kernel
theorem dX0_write_4 : decode cX0_write 4 = .ok (.iload_n 1, 1) := by decide +kernel
theorem dX0_write_5 : decode cX0_write 5 = .ok (.bipush 6, 2) := by decide +kernel
theorem dX0_write_7 : decode cX0_write 7 = .ok (.if_icmp .ge 25, 3) := by decide +kernel
theorem dX0_write_10 : decode cX0_write 10 = .ok (.iload_n 2, 1) := by decide +kernel
theorem dX0_write_11 : decode cX0_write 11 = .ok (.ifCond .lt 21, 3) := by decide +kernel
theorem dX0_write_14 : decode cX0_write 14 = .ok (.iload_n 2, 1) := by decide +kernel
theorem dX0_write_15 : decode cX0_write 15 = .ok (.sipush 400, 3) := by decide +kernel
theorem dX0_write_18 : decode cX0_write 18 = .ok (.if_icmp .ge 14, 3) := by decide +kernel
theorem dX0_write_21 : decode cX0_write 21 = .ok (.iload_n 2, 1) := by decide +kernel
theorem dX0_write_22 : decode cX0_write 22 = .ok (.aload_n 0, 1) := by decide +kernel
theorem dX0_write_23 : decode cX0_write 23 = .ok (.getfield 18, 3) := by decide +kernel
theorem dX0_write_26 : decode cX0_write 26 = .ok (.getfield 22, 3) := by decide +kernel
theorem dX0_write_29 : decode cX0_write 29 = .ok (.if_icmp .le 5, 3) := by decide +kernel
theorem dX0_write_32 : decode cX0_write 32 = .ok (.iconst 0, 1) := by decide +kernel
theorem dX0_write_33 : decode cX0_write 33 = .ok (.ireturn, 1) := by decide +kernel
theorem dX0_write_34 : decode cX0_write 34 = .ok (.iload_n 3, 1) := by decide +kernel
theorem dX0_write_35 : decode cX0_write 35 = .ok (.sipush (-9999), 3) := by decide +kernel
theorem dX0_write_38 : decode cX0_write 38 = .ok (.if_icmp .lt 10, 3) := by decide +kernel
theorem dX0_write_41 : decode cX0_write 41 = .ok (.iload_n 3, 1) := by decide +kernel
theorem dX0_write_42 : decode cX0_write 42 = .ok (.sipush 9999, 3) := by decide +kernel
theorem dX0_write_45 : decode cX0_write 45 = .ok (.if_icmp .le 5, 3) := by decide +kernel
theorem dX0_write_48 : decode cX0_write 48 = .ok (.iconst 0, 1) := by decide +kernel
theorem dX0_write_49 : decode cX0_write 49 = .ok (.ireturn, 1) := by decide +kernel
theorem dX0_write_50 : decode cX0_write 50 = .ok (.aload_n 0, 1) := by decide +kernel
theorem dX0_write_51 : decode cX0_write 51 = .ok (.getfield 9, 3) := by decide +kernel
theorem dX0_write_54 : decode cX0_write 54 = .ok (.iload_n 1, 1) := by decide +kernel
theorem dX0_write_55 : decode cX0_write 55 = .ok (.sipush 400, 3) := by decide +kernel
theorem dX0_write_58 : decode cX0_write 58 = .ok (.imul, 1) := by decide +kernel
theorem dX0_write_59 : decode cX0_write 59 = .ok (.iload_n 2, 1) := by decide +kernel
theorem dX0_write_60 : decode cX0_write 60 = .ok (.iadd, 1) := by decide +kernel
theorem dX0_write_61 : decode cX0_write 61 = .ok (.iload_n 3, 1) := by decide +kernel
theorem dX0_write_62 : decode cX0_write 62 = .ok (.sipush (-10000), 3) := by decide +kernel
theorem dX0_write_65 : decode cX0_write 65 = .ok (.isub, 1) := by decide +kernel
theorem dX0_write_66 : decode cX0_write 66 = .ok (.iastore, 1) := by decide +kernel
theorem dX0_write_67 : decode cX0_write 67 = .ok (.aload_n 0, 1) := by decide +kernel
theorem dX0_write_68 : decode cX0_write 68 = .ok (.getfield 18, 3) := by decide +kernel
theorem dX0_write_71 : decode cX0_write 71 = .ok (.iload_n 1, 1) := by decide +kernel
theorem dX0_write_72 : decode cX0_write 72 = .ok (.aload_n 0, 1) := by decide +kernel
theorem dX0_write_73 : decode cX0_write 73 = .ok (.iload_n 1, 1) := by decide +kernel
theorem dX0_write_74 : decode cX0_write 74 = .ok (.aload_n 0, 1) := by decide +kernel
theorem dX0_write_75 : decode cX0_write 75 = .ok (.getfield 18, 3) := by decide +kernel
theorem dX0_write_78 : decode cX0_write 78 = .ok (.getfield 22, 3) := by decide +kernel
theorem dX0_write_81 : decode cX0_write 81 = .ok (.invokevirtual 26, 3) := by decide +kernel
theorem dX0_write_84 : decode cX0_write 84 = .ok (.invokevirtual 30, 3) := by decide +kernel
theorem dX0_write_87 : decode cX0_write 87 = .ok (.iconst 1, 1) := by decide +kernel
theorem dX0_write_88 : decode cX0_write 88 = .ok (.ireturn, 1) := by decide +kernel
theorem dX0_read_0 : decode cX0_read 0 = .ok (.iload_n 1, 1) := by decide +kernel
theorem dX0_read_1 : decode cX0_read 1 = .ok (.ifCond .lt 20, 3) := by decide +kernel
theorem dX0_read_4 : decode cX0_read 4 = .ok (.iload_n 1, 1) := by decide +kernel
theorem dX0_read_5 : decode cX0_read 5 = .ok (.bipush 6, 2) := by decide +kernel
theorem dX0_read_7 : decode cX0_read 7 = .ok (.if_icmp .ge 14, 3) := by decide +kernel
theorem dX0_read_10 : decode cX0_read 10 = .ok (.iload_n 2, 1) := by decide +kernel
theorem dX0_read_11 : decode cX0_read 11 = .ok (.ifCond .lt 10, 3) := by decide +kernel
theorem dX0_read_14 : decode cX0_read 14 = .ok (.iload_n 2, 1) := by decide +kernel
theorem dX0_read_15 : decode cX0_read 15 = .ok (.sipush 400, 3) := by decide +kernel
theorem dX0_read_18 : decode cX0_read 18 = .ok (.if_icmp .lt 7, 3) := by decide +kernel
theorem dX0_read_21 : decode cX0_read 21 = .ok (.sipush (-10000), 3) := by decide +kernel
theorem dX0_read_24 : decode cX0_read 24 = .ok (.ireturn, 1) := by decide +kernel
theorem dX0_read_25 : decode cX0_read 25 = .ok (.iload_n 2, 1) := by decide +kernel
theorem dX0_read_26 : decode cX0_read 26 = .ok (.istore_n 3, 1) := by decide +kernel
theorem dX0_read_27 : decode cX0_read 27 = .ok (.iload_n 3, 1) := by decide +kernel
theorem dX0_read_28 : decode cX0_read 28 = .ok (.ifCond .lt 35, 3) := by decide +kernel
theorem dX0_read_31 : decode cX0_read 31 = .ok (.aload_n 0, 1) := by decide +kernel
theorem dX0_read_32 : decode cX0_read 32 = .ok (.getfield 9, 3) := by decide +kernel
theorem dX0_read_35 : decode cX0_read 35 = .ok (.iload_n 1, 1) := by decide +kernel
theorem dX0_read_36 : decode cX0_read 36 = .ok (.sipush 400, 3) := by decide +kernel
theorem dX0_read_39 : decode cX0_read 39 = .ok (.imul, 1) := by decide +kernel
theorem dX0_read_40 : decode cX0_read 40 = .ok (.iload_n 3, 1) := by decide +kernel
theorem dX0_read_41 : decode cX0_read 41 = .ok (.iadd, 1) := by decide +kernel
theorem dX0_read_42 : decode cX0_read 42 = .ok (.iaload, 1) := by decide +kernel
theorem dX0_read_43 : decode cX0_read 43 = .ok (.istore 4, 2) := by decide +kernel
theorem dX0_read_45 : decode cX0_read 45 = .ok (.iload 4, 2) := by decide +kernel
theorem dX0_read_47 : decode cX0_read 47 = .ok (.ifCond .le 10, 3) := by decide +kernel
theorem dX0_read_50 : decode cX0_read 50 = .ok (.iload 4, 2) := by decide +kernel
theorem dX0_read_52 : decode cX0_read 52 = .ok (.sipush (-10000), 3) := by decide +kernel
theorem dX0_read_55 : decode cX0_read 55 = .ok (.iadd, 1) := by decide +kernel
theorem dX0_read_56 : decode cX0_read 56 = .ok (.ireturn, 1) := by decide +kernel
theorem dX0_read_57 : decode cX0_read 57 = .ok (.iinc 3 (-1), 3) := by decide +kernel
theorem dX0_read_60 : decode cX0_read 60 = .ok (.goto (-33), 3) := by decide +kernel
theorem dX0_read_63 : decode cX0_read 63 = .ok (.iconst 0, 1) := by decide +kernel
theorem dX0_read_64 : decode cX0_read 64 = .ok (.ireturn, 1) := by decide +kernel
theorem dX0_turn_0 : decode cX0_turn 0 = .ok (.aload_n 0, 1) := by decide +kernel
theorem dX0_turn_1 : decode cX0_turn 1 = .ok (.getfield 18, 3) := by decide +kernel
theorem dX0_turn_4 : decode cX0_turn 4 = .ok (.getfield 22, 3) := by decide +kernel
theorem dX0_turn_7 : decode cX0_turn 7 = .ok (.sipush 399, 3) := by decide +kernel
theorem dX0_turn_10 : decode cX0_turn 10 = .ok (.if_icmp .lt 5, 3) := by decide +kernel
theorem dX0_turn_13 : decode cX0_turn 13 = .ok (.iconst 0, 1) := by decide +kernel
theorem dX0_turn_14 : decode cX0_turn 14 = .ok (.ireturn, 1) := by decide +kernel
theorem dX0_turn_15 : decode cX0_turn 15 = .ok (.aload_n 0, 1) := by decide +kernel
theorem dX0_turn_16 : decode cX0_turn 16 = .ok (.getfield 18, 3) := by decide +kernel
theorem dX0_turn_19 : decode cX0_turn 19 = .ok (.dup, 1) := by decide +kernel
theorem dX0_turn_20 : decode cX0_turn 20 = .ok (.getfield 22, 3) := by decide +kernel
theorem dX0_turn_23 : decode cX0_turn 23 = .ok (.iconst 1, 1) := by decide +kernel
theorem dX0_turn_24 : decode cX0_turn 24 = .ok (.iadd, 1) := by decide +kernel
theorem dX0_turn_25 : decode cX0_turn 25 = .ok (.putfield 22, 3) := by decide +kernel
theorem dX0_turn_28 : decode cX0_turn 28 = .ok (.iconst 1, 1) := by decide +kernel
theorem dX0_turn_29 : decode cX0_turn 29 = .ok (.ireturn, 1) := by decide +kernel
theorem dX1_init_0 : decode cX1_init 0 = .ok (.aload_n 0, 1) := by decide +kernel
theorem dX1_init_1 : decode cX1_init 1 = .ok (.invokespecial 3, 3) := by decide +kernel
theorem dX1_init_4 : decode cX1_init 4 = .ok (.aload_n 0, 1) := by decide +kernel
theorem dX1_init_5 : decode cX1_init 5 = .ok (.bipush 40, 2) := by decide +kernel
theorem dX1_init_7 : decode cX1_init 7 = .ok (.anewarray 9, 3) := by decide +kernel
theorem dX1_init_10 : decode cX1_init 10 = .ok (.putfield 11, 3) := by decide +kernel
theorem dX1_init_13 : decode cX1_init 13 = .ok (.aload_n 0, 1) := by decide +kernel
theorem dX1_init_14 : decode cX1_init 14 = .ok (.aload_n 1, 1) := by decide +kernel
theorem dX1_init_15 : decode cX1_init 15 = .ok (.putfield 17, 3) := by decide +kernel
theorem dX1_init_18 : decode cX1_init 18 = .ok (.aload_n 0, 1) := by decide +kernel
theorem dX1_init_19 : decode cX1_init 19 = .ok (.aload_n 2, 1) := by decide +kernel
theorem dX1_init_20 : decode cX1_init 20 = .ok (.putfield 21, 3) := by decide +kernel
theorem dX1_init_23 : decode cX1_init 23 = .ok (.return_, 1) := by decide +kernel
theorem dX1_size_0 : decode cX1_size 0 = .ok (.aload_n 0, 1) := by decide +kernel
theorem dX1_size_1 : decode cX1_size 1 = .ok (.getfield 25, 3) := by decide +kernel
theorem dX1_size_4 : decode cX1_size 4 = .ok (.ireturn, 1) := by decide +kernel
theorem dX1_lifeAt_0 : decode cX1_lifeAt 0 = .ok (.iload_n 1, 1) := by decide +kernel
theorem dX1_lifeAt_1 : decode cX1_lifeAt 1 = .ok (.ifCond .lt 26, 3) := by decide +kernel
theorem dX1_lifeAt_4 : decode cX1_lifeAt 4 = .ok (.iload_n 1, 1) := by decide +kernel
theorem dX1_lifeAt_5 : decode cX1_lifeAt 5 = .ok (.aload_n 0, 1) := by decide +kernel
theorem dX1_lifeAt_6 : decode cX1_lifeAt 6 = .ok (.getfield 25, 3) := by decide +kernel
theorem dX1_lifeAt_9 : decode cX1_lifeAt 9 = .ok (.if_icmp .ge 18, 3) := by decide +kernel
theorem dX1_lifeAt_12 : decode cX1_lifeAt 12 = .ok (.iload_n 1, 1) := by decide +kernel
theorem dX1_lifeAt_13 : decode cX1_lifeAt 13 = .ok (.bipush 40, 2) := by decide +kernel
theorem dX1_lifeAt_15 : decode cX1_lifeAt 15 = .ok (.if_icmp .ge 12, 3) := by decide +kernel
theorem dX1_lifeAt_18 : decode cX1_lifeAt 18 = .ok (.aload_n 0, 1) := by decide +kernel
theorem dX1_lifeAt_19 : decode cX1_lifeAt 19 = .ok (.getfield 11, 3) := by decide +kernel
theorem dX1_lifeAt_22 : decode cX1_lifeAt 22 = .ok (.iload_n 1, 1) := by decide +kernel
theorem dX1_lifeAt_23 : decode cX1_lifeAt 23 = .ok (.aaload, 1) := by decide +kernel
theorem dX1_lifeAt_24 : decode cX1_lifeAt 24 = .ok (.goto 4, 3) := by decide +kernel
theorem dX1_lifeAt_27 : decode cX1_lifeAt 27 = .ok (.aconst_null, 1) := by decide +kernel
theorem dX1_lifeAt_28 : decode cX1_lifeAt 28 = .ok (.areturn, 1) := by decide +kernel
theorem dX1_open_0 : decode cX1_open 0 = .ok (.aload_n 0, 1) := by decide +kernel
theorem dX1_open_1 : decode cX1_open 1 = .ok (.getfield 25, 3) := by decide +kernel
theorem dX1_open_4 : decode cX1_open 4 = .ok (.ifCond .lt 12, 3) := by decide +kernel
theorem dX1_open_7 : decode cX1_open 7 = .ok (.aload_n 0, 1) := by decide +kernel
theorem dX1_open_8 : decode cX1_open 8 = .ok (.getfield 25, 3) := by decide +kernel
theorem dX1_open_11 : decode cX1_open 11 = .ok (.bipush 40, 2) := by decide +kernel
theorem dX1_open_13 : decode cX1_open 13 = .ok (.if_icmp .lt 5, 3) := by decide +kernel
theorem dX1_open_16 : decode cX1_open 16 = .ok (.iconst (-1), 1) := by decide +kernel
theorem dX1_open_17 : decode cX1_open 17 = .ok (.ireturn, 1) := by decide +kernel
theorem dX1_open_18 : decode cX1_open 18 = .ok (.new 9, 3) := by decide +kernel
theorem dX1_open_21 : decode cX1_open 21 = .ok (.dup, 1) := by decide +kernel
theorem dX1_open_22 : decode cX1_open 22 = .ok (.aload_n 1, 1) := by decide +kernel
theorem dX1_open_23 : decode cX1_open 23 = .ok (.aload_n 0, 1) := by decide +kernel
theorem dX1_open_24 : decode cX1_open 24 = .ok (.getfield 25, 3) := by decide +kernel
theorem dX1_open_27 : decode cX1_open 27 = .ok (.iload_n 2, 1) := by decide +kernel
theorem dX1_open_28 : decode cX1_open 28 = .ok (.iload_n 3, 1) := by decide +kernel
theorem dX1_open_29 : decode cX1_open 29 = .ok (.invokespecial 29, 3) := by decide +kernel
theorem dX1_open_32 : decode cX1_open 32 = .ok (.astore 4, 2) := by decide +kernel
theorem dX1_open_34 : decode cX1_open 34 = .ok (.aload_n 0, 1) := by decide +kernel
theorem dX1_open_35 : decode cX1_open 35 = .ok (.getfield 11, 3) := by decide +kernel
theorem dX1_open_38 : decode cX1_open 38 = .ok (.aload_n 0, 1) := by decide +kernel
theorem dX1_open_39 : decode cX1_open 39 = .ok (.getfield 25, 3) := by decide +kernel
theorem dX1_open_42 : decode cX1_open 42 = .ok (.aload 4, 2) := by decide +kernel
theorem dX1_open_44 : decode cX1_open 44 = .ok (.aastore, 1) := by decide +kernel
theorem dX1_open_45 : decode cX1_open 45 = .ok (.aload_n 0, 1) := by decide +kernel
theorem dX1_open_46 : decode cX1_open 46 = .ok (.dup, 1) := by decide +kernel
theorem dX1_open_47 : decode cX1_open 47 = .ok (.getfield 25, 3) := by decide +kernel
theorem dX1_open_50 : decode cX1_open 50 = .ok (.iconst 1, 1) := by decide +kernel
theorem dX1_open_51 : decode cX1_open 51 = .ok (.iadd, 1) := by decide +kernel
theorem dX1_open_52 : decode cX1_open 52 = .ok (.putfield 25, 3) := by decide +kernel
theorem dX1_open_55 : decode cX1_open 55 = .ok (.aload_n 0, 1) := by decide +kernel
theorem dX1_open_56 : decode cX1_open 56 = .ok (.aload 4, 2) := by decide +kernel
theorem dX1_open_58 : decode cX1_open 58 = .ok (.iconst 0, 1) := by decide +kernel
theorem dX1_open_59 : decode cX1_open 59 = .ok (.iconst 1, 1) := by decide +kernel
theorem dX1_open_60 : decode cX1_open 60 = .ok (.iconst 0, 1) := by decide +kernel
theorem dX1_open_61 : decode cX1_open 61 = .ok (.invokevirtual 32, 3) := by decide +kernel
theorem dX1_open_64 : decode cX1_open 64 = .ok (.aload 4, 2) := by decide +kernel
theorem dX1_open_66 : decode cX1_open 66 = .ok (.getfield 36, 3) := by decide +kernel
theorem dX1_open_69 : decode cX1_open 69 = .ok (.ireturn, 1) := by decide +kernel
theorem dX1_acquire_0 : decode cX1_acquire 0 = .ok (.aload_n 1, 1) := by decide +kernel
theorem dX1_acquire_1 : decode cX1_acquire 1 = .ok (.getfield 39, 3) := by decide +kernel
theorem dX1_acquire_4 : decode cX1_acquire 4 = .ok (.astore 5, 2) := by decide +kernel
theorem dX1_acquire_6 : decode cX1_acquire 6 = .ok (.iload_n 2, 1) := by decide +kernel
theorem dX1_acquire_7 : decode cX1_acquire 7 = .ok (.ifCond .lt 23, 3) := by decide +kernel
theorem dX1_acquire_10 : decode cX1_acquire 10 = .ok (.iload 4, 2) := by decide +kernel
theorem dX1_acquire_12 : decode cX1_acquire 12 = .ok (.bipush 11, 2) := by decide +kernel
theorem dX1_acquire_14 : decode cX1_acquire 14 = .ok (.if_icmp .gt 16, 3) := by decide +kernel
theorem dX1_acquire_17 : decode cX1_acquire 17 = .ok (.aload 5, 2) := by decide +kernel
theorem dX1_acquire_19 : decode cX1_acquire 19 = .ok (.iload_n 2, 1) := by decide +kernel
theorem dX1_acquire_20 : decode cX1_acquire 20 = .ok (.aload_n 0, 1) := by decide +kernel
theorem dX1_acquire_21 : decode cX1_acquire 21 = .ok (.getfield 17, 3) := by decide +kernel
theorem dX1_acquire_24 : decode cX1_acquire 24 = .ok (.invokevirtual 43, 3) := by decide +kernel
theorem dX1_acquire_27 : decode cX1_acquire 27 = .ok (.ifCond .eq 4, 3) := by decide +kernel
theorem dX1_acquire_30 : decode cX1_acquire 30 = .ok (.return_, 1) := by decide +kernel
theorem dX1_acquire_31 : decode cX1_acquire 31 = .ok (.aload 5, 2) := by decide +kernel
theorem dX1_acquire_33 : decode cX1_acquire 33 = .ok (.iload_n 2, 1) := by decide +kernel
theorem dX1_acquire_34 : decode cX1_acquire 34 = .ok (.iconst 0, 1) := by decide +kernel
theorem dX1_acquire_35 : decode cX1_acquire 35 = .ok (.invokevirtual 49, 3) := by decide +kernel
theorem dX1_acquire_38 : decode cX1_acquire 38 = .ok (.istore 6, 2) := by decide +kernel
theorem dX1_acquire_40 : decode cX1_acquire 40 = .ok (.iload 6, 2) := by decide +kernel
theorem dX1_acquire_42 : decode cX1_acquire 42 = .ok (.tableswitch 83 (-1) 7 #[50, 50, 51, 83, 83, 75, 83, 83, 75], 50) := by decide +kernel
theorem dX1_acquire_92 : decode cX1_acquire 92 = .ok (.return_, 1) := by decide +kernel
theorem dX1_acquire_93 : decode cX1_acquire 93 = .ok (.aload_n 0, 1) := by decide +kernel
theorem dX1_acquire_94 : decode cX1_acquire 94 = .ok (.getfield 21, 3) := by decide +kernel
theorem dX1_acquire_97 : decode cX1_acquire 97 = .ok (.aload_n 1, 1) := by decide +kernel
theorem dX1_acquire_98 : decode cX1_acquire 98 = .ok (.aload_n 0, 1) := by decide +kernel
theorem dX1_acquire_99 : decode cX1_acquire 99 = .ok (.getfield 17, 3) := by decide +kernel
theorem dX1_acquire_102 : decode cX1_acquire 102 = .ok (.getfield 53, 3) := by decide +kernel
theorem dX1_acquire_105 : decode cX1_acquire 105 = .ok (.aload 5, 2) := by decide +kernel
theorem dX1_acquire_107 : decode cX1_acquire 107 = .ok (.iload_n 2, 1) := by decide +kernel
theorem dX1_acquire_108 : decode cX1_acquire 108 = .ok (.iload_n 3, 1) := by decide +kernel
theorem dX1_acquire_109 : decode cX1_acquire 109 = .ok (.invokevirtual 58, 3) := by decide +kernel
theorem dX1_acquire_112 : decode cX1_acquire 112 = .ok (.iload_n 2, 1) := by decide +kernel
theorem dX1_acquire_113 : decode cX1_acquire 113 = .ok (.invokevirtual 61, 3) := by decide +kernel
theorem dX1_acquire_116 : decode cX1_acquire 116 = .ok (.return_, 1) := by decide +kernel
theorem dX1_acquire_117 : decode cX1_acquire 117 = .ok (.aload_n 0, 1) := by decide +kernel
theorem dX1_acquire_118 : decode cX1_acquire 118 = .ok (.aload_n 1, 1) := by decide +kernel
theorem dX1_acquire_119 : decode cX1_acquire 119 = .ok (.iload_n 2, 1) := by decide +kernel
theorem dX1_acquire_120 : decode cX1_acquire 120 = .ok (.iload_n 3, 1) := by decide +kernel
theorem dX1_acquire_121 : decode cX1_acquire 121 = .ok (.invokevirtual 66, 3) := by decide +kernel
theorem dX1_acquire_124 : decode cX1_acquire 124 = .ok (.return_, 1) := by decide +kernel
theorem dX1_acquire_125 : decode cX1_acquire 125 = .ok (.iload 6, 2) := by decide +kernel
theorem dX1_acquire_127 : decode cX1_acquire 127 = .ok (.bipush 6, 2) := by decide +kernel
theorem dX1_acquire_129 : decode cX1_acquire 129 = .ok (.if_icmp .ne 24, 3) := by decide +kernel
theorem dX1_acquire_132 : decode cX1_acquire 132 = .ok (.aload 5, 2) := by decide +kernel
theorem dX1_acquire_134 : decode cX1_acquire 134 = .ok (.iload_n 2, 1) := by decide +kernel
theorem dX1_acquire_135 : decode cX1_acquire 135 = .ok (.aload_n 0, 1) := by decide +kernel
theorem dX1_acquire_136 : decode cX1_acquire 136 = .ok (.getfield 17, 3) := by decide +kernel
theorem dX1_acquire_139 : decode cX1_acquire 139 = .ok (.invokevirtual 70, 3) := by decide +kernel
theorem dX1_acquire_142 : decode cX1_acquire 142 = .ok (.ifCond .ne 11, 3) := by decide +kernel
theorem dX1_acquire_145 : decode cX1_acquire 145 = .ok (.aload_n 0, 1) := by decide +kernel
theorem dX1_acquire_146 : decode cX1_acquire 146 = .ok (.aload_n 1, 1) := by decide +kernel
theorem dX1_acquire_147 : decode cX1_acquire 147 = .ok (.iload_n 2, 1) := by decide +kernel
theorem dX1_acquire_148 : decode cX1_acquire 148 = .ok (.iload_n 3, 1) := by decide +kernel
theorem dX1_acquire_149 : decode cX1_acquire 149 = .ok (.invokevirtual 66, 3) := by decide +kernel
theorem dX1_acquire_152 : decode cX1_acquire 152 = .ok (.return_, 1) := by decide +kernel
theorem dX1_acquire_153 : decode cX1_acquire 153 = .ok (.aload 5, 2) := by decide +kernel
theorem dX1_acquire_155 : decode cX1_acquire 155 = .ok (.iload_n 2, 1) := by decide +kernel
theorem dX1_acquire_156 : decode cX1_acquire 156 = .ok (.iload_n 3, 1) := by decide +kernel
theorem dX1_acquire_157 : decode cX1_acquire 157 = .ok (.aload_n 0, 1) := by decide +kernel
theorem dX1_acquire_158 : decode cX1_acquire 158 = .ok (.getfield 17, 3) := by decide +kernel
theorem dX1_acquire_161 : decode cX1_acquire 161 = .ok (.invokevirtual 73, 3) := by decide +kernel
theorem dX1_acquire_164 : decode cX1_acquire 164 = .ok (.istore 7, 2) := by decide +kernel
theorem dX1_acquire_166 : decode cX1_acquire 166 = .ok (.aload_n 0, 1) := by decide +kernel
theorem dX1_acquire_167 : decode cX1_acquire 167 = .ok (.aload_n 1, 1) := by decide +kernel
theorem dX1_acquire_168 : decode cX1_acquire 168 = .ok (.aload 5, 2) := by decide +kernel
theorem dX1_acquire_170 : decode cX1_acquire 170 = .ok (.iload_n 2, 1) := by decide +kernel
theorem dX1_acquire_171 : decode cX1_acquire 171 = .ok (.aload_n 0, 1) := by decide +kernel
theorem dX1_acquire_172 : decode cX1_acquire 172 = .ok (.getfield 17, 3) := by decide +kernel
theorem dX1_acquire_175 : decode cX1_acquire 175 = .ok (.invokevirtual 77, 3) := by decide +kernel
theorem dX1_acquire_178 : decode cX1_acquire 178 = .ok (.iload 7, 2) := by decide +kernel
theorem dX1_acquire_180 : decode cX1_acquire 180 = .ok (.iload 4, 2) := by decide +kernel
theorem dX1_acquire_182 : decode cX1_acquire 182 = .ok (.iconst 1, 1) := by decide +kernel
theorem dX1_acquire_183 : decode cX1_acquire 183 = .ok (.iadd, 1) := by decide +kernel
theorem dX1_acquire_184 : decode cX1_acquire 184 = .ok (.invokevirtual 32, 3) := by decide +kernel
theorem dX1_acquire_187 : decode cX1_acquire 187 = .ok (.iload 6, 2) := by decide +kernel
theorem dX1_acquire_189 : decode cX1_acquire 189 = .ok (.iconst 3, 1) := by decide +kernel
theorem dX1_acquire_190 : decode cX1_acquire 190 = .ok (.if_icmp .ne 21, 3) := by decide +kernel
theorem dX1_acquire_193 : decode cX1_acquire 193 = .ok (.aload_n 0, 1) := by decide +kernel
theorem dX1_acquire_194 : decode cX1_acquire 194 = .ok (.aload_n 1, 1) := by decide +kernel
theorem dX1_acquire_195 : decode cX1_acquire 195 = .ok (.aload 5, 2) := by decide +kernel
theorem dX1_acquire_197 : decode cX1_acquire 197 = .ok (.iload_n 2, 1) := by decide +kernel
theorem dX1_acquire_198 : decode cX1_acquire 198 = .ok (.iconst 4, 1) := by decide +kernel
theorem dX1_acquire_199 : decode cX1_acquire 199 = .ok (.invokevirtual 49, 3) := by decide +kernel
theorem dX1_acquire_202 : decode cX1_acquire 202 = .ok (.iload 7, 2) := by decide +kernel
theorem dX1_acquire_204 : decode cX1_acquire 204 = .ok (.iload 4, 2) := by decide +kernel
theorem dX1_acquire_206 : decode cX1_acquire 206 = .ok (.iconst 1, 1) := by decide +kernel
theorem dX1_acquire_207 : decode cX1_acquire 207 = .ok (.iadd, 1) := by decide +kernel
theorem dX1_acquire_208 : decode cX1_acquire 208 = .ok (.invokevirtual 32, 3) := by decide +kernel
theorem dX1_acquire_211 : decode cX1_acquire 211 = .ok (.return_, 1) := by decide +kernel
theorem dX1_keep_0 : decode cX1_keep 0 = .ok (.aload_n 1, 1) := by decide +kernel
theorem dX1_keep_1 : decode cX1_keep 1 = .ok (.iload_n 2, 1) := by decide +kernel
theorem dX1_keep_2 : decode cX1_keep 2 = .ok (.iload_n 3, 1) := by decide +kernel
theorem dX1_keep_3 : decode cX1_keep 3 = .ok (.invokevirtual 81, 3) := by decide +kernel
theorem dX1_keep_6 : decode cX1_keep 6 = .ok (.ifCond .ne 16, 3) := by decide +kernel
theorem dX1_keep_9 : decode cX1_keep 9 = .ok (.aload_n 0, 1) := by decide +kernel
theorem dX1_keep_10 : decode cX1_keep 10 = .ok (.getfield 21, 3) := by decide +kernel
theorem dX1_keep_13 : decode cX1_keep 13 = .ok (.dup, 1) := by decide +kernel
theorem dX1_keep_14 : decode cX1_keep 14 = .ok (.getfield 85, 3) := by decide +kernel
theorem dX1_keep_17 : decode cX1_keep 17 = .ok (.iconst 1, 1) := by decide +kernel
theorem dX1_keep_18 : decode cX1_keep 18 = .ok (.iadd, 1) := by decide +kernel
theorem dX1_keep_19 : decode cX1_keep 19 = .ok (.putfield 85, 3) := by decide +kernel
theorem dX1_keep_22 : decode cX1_keep 22 = .ok (.return_, 1) := by decide +kernel
theorem dX1_wake_0 : decode cX1_wake 0 = .ok (.aload_n 1, 1) := by decide +kernel
theorem dX1_wake_1 : decode cX1_wake 1 = .ok (.ifnonnull 4, 3) := by decide +kernel
theorem dX1_wake_4 : decode cX1_wake 4 = .ok (.return_, 1) := by decide +kernel
theorem dX1_wake_5 : decode cX1_wake 5 = .ok (.iconst 0, 1) := by decide +kernel
theorem dX1_wake_6 : decode cX1_wake 6 = .ok (.istore_n 2, 1) := by decide +kernel
theorem dX1_wake_7 : decode cX1_wake 7 = .ok (.aload_n 1, 1) := by decide +kernel
theorem dX1_wake_8 : decode cX1_wake 8 = .ok (.invokevirtual 88, 3) := by decide +kernel
theorem dX1_wake_11 : decode cX1_wake 11 = .ok (.bipush 40, 2) := by decide +kernel
theorem dX1_wake_13 : decode cX1_wake 13 = .ok (.invokestatic 91, 3) := by decide +kernel
theorem dX1_wake_16 : decode cX1_wake 16 = .ok (.istore_n 3, 1) := by decide +kernel
theorem dX1_wake_17 : decode cX1_wake 17 = .ok (.iload_n 3, 1) := by decide +kernel
theorem dX1_wake_18 : decode cX1_wake 18 = .ok (.ifCond .le 35, 3) := by decide +kernel
theorem dX1_wake_21 : decode cX1_wake 21 = .ok (.aload_n 0, 1) := by decide +kernel
theorem dX1_wake_22 : decode cX1_wake 22 = .ok (.aload_n 1, 1) := by decide +kernel
theorem dX1_wake_23 : decode cX1_wake 23 = .ok (.aload_n 1, 1) := by decide +kernel
theorem dX1_wake_24 : decode cX1_wake 24 = .ok (.iload_n 2, 1) := by decide +kernel
theorem dX1_wake_25 : decode cX1_wake 25 = .ok (.invokevirtual 96, 3) := by decide +kernel
theorem dX1_wake_28 : decode cX1_wake 28 = .ok (.invokevirtual 100, 3) := by decide +kernel
theorem dX1_wake_31 : decode cX1_wake 31 = .ok (.ifCond .eq 9, 3) := by decide +kernel
theorem dX1_wake_34 : decode cX1_wake 34 = .ok (.iinc 2 1, 3) := by decide +kernel
theorem dX1_wake_37 : decode cX1_wake 37 = .ok (.goto 10, 3) := by decide +kernel
theorem dX1_wake_40 : decode cX1_wake 40 = .ok (.aload_n 0, 1) := by decide +kernel
theorem dX1_wake_41 : decode cX1_wake 41 = .ok (.aload_n 1, 1) := by decide +kernel
theorem dX1_wake_42 : decode cX1_wake 42 = .ok (.iload_n 2, 1) := by decide +kernel
theorem dX1_wake_43 : decode cX1_wake 43 = .ok (.iconst 3, 1) := by decide +kernel
theorem dX1_wake_44 : decode cX1_wake 44 = .ok (.invokevirtual 104, 3) := by decide +kernel
theorem dX1_wake_47 : decode cX1_wake 47 = .ok (.iinc 3 (-1), 3) := by decide +kernel
theorem dX1_wake_50 : decode cX1_wake 50 = .ok (.goto (-33), 3) := by decide +kernel
theorem dX1_wake_53 : decode cX1_wake 53 = .ok (.return_, 1) := by decide +kernel
theorem dX1_rests_0 : decode cX1_rests 0 = .ok (.aload_n 1, 1) := by decide +kernel
theorem dX1_rests_1 : decode cX1_rests 1 = .ok (.getfield 39, 3) := by decide +kernel
theorem dX1_rests_4 : decode cX1_rests 4 = .ok (.iload_n 2, 1) := by decide +kernel
theorem dX1_rests_5 : decode cX1_rests 5 = .ok (.iconst 0, 1) := by decide +kernel
theorem dX1_rests_6 : decode cX1_rests 6 = .ok (.invokevirtual 49, 3) := by decide +kernel
theorem dX1_rests_9 : decode cX1_rests 9 = .ok (.istore_n 3, 1) := by decide +kernel
theorem dX1_rests_10 : decode cX1_rests 10 = .ok (.iload_n 3, 1) := by decide +kernel
theorem dX1_rests_11 : decode cX1_rests 11 = .ok (.iconst 4, 1) := by decide +kernel
theorem dX1_rests_12 : decode cX1_rests 12 = .ok (.if_icmp .eq 18, 3) := by decide +kernel
theorem dX1_rests_15 : decode cX1_rests 15 = .ok (.aload_n 1, 1) := by decide +kernel
theorem dX1_rests_16 : decode cX1_rests 16 = .ok (.getfield 39, 3) := by decide +kernel
theorem dX1_rests_19 : decode cX1_rests 19 = .ok (.iload_n 2, 1) := by decide +kernel
theorem dX1_rests_20 : decode cX1_rests 20 = .ok (.aload_n 0, 1) := by decide +kernel
theorem dX1_rests_21 : decode cX1_rests 21 = .ok (.getfield 17, 3) := by decide +kernel
theorem dX1_rests_24 : decode cX1_rests 24 = .ok (.invokevirtual 43, 3) := by decide +kernel
theorem dX1_rests_27 : decode cX1_rests 27 = .ok (.ifCond .eq 5, 3) := by decide +kernel
theorem dX1_rests_30 : decode cX1_rests 30 = .ok (.iconst 0, 1) := by decide +kernel
theorem dX1_rests_31 : decode cX1_rests 31 = .ok (.ireturn, 1) := by decide +kernel
theorem dX1_rests_32 : decode cX1_rests 32 = .ok (.iload_n 3, 1) := by decide +kernel
theorem dX1_rests_33 : decode cX1_rests 33 = .ok (.bipush 6, 2) := by decide +kernel
theorem dX1_rests_35 : decode cX1_rests 35 = .ok (.if_icmp .ne 18, 3) := by decide +kernel
theorem dX1_rests_38 : decode cX1_rests 38 = .ok (.aload_n 1, 1) := by decide +kernel
theorem dX1_rests_39 : decode cX1_rests 39 = .ok (.getfield 39, 3) := by decide +kernel
theorem dX1_rests_42 : decode cX1_rests 42 = .ok (.iload_n 2, 1) := by decide +kernel
theorem dX1_rests_43 : decode cX1_rests 43 = .ok (.aload_n 0, 1) := by decide +kernel
theorem dX1_rests_44 : decode cX1_rests 44 = .ok (.getfield 17, 3) := by decide +kernel
theorem dX1_rests_47 : decode cX1_rests 47 = .ok (.invokevirtual 70, 3) := by decide +kernel
theorem dX1_rests_50 : decode cX1_rests 50 = .ok (.ifCond .ne 7, 3) := by decide +kernel
theorem dX1_rests_53 : decode cX1_rests 53 = .ok (.iconst 1, 1) := by decide +kernel
theorem dX1_rests_54 : decode cX1_rests 54 = .ok (.goto 4, 3) := by decide +kernel
theorem dX1_rests_57 : decode cX1_rests 57 = .ok (.iconst 0, 1) := by decide +kernel
theorem dX1_rests_58 : decode cX1_rests 58 = .ok (.ireturn, 1) := by decide +kernel
theorem dX1_enter_0 : decode cX1_enter 0 = .ok (.aload_n 1, 1) := by decide +kernel
theorem dX1_enter_1 : decode cX1_enter 1 = .ok (.iload_n 2, 1) := by decide +kernel
theorem dX1_enter_2 : decode cX1_enter 2 = .ok (.invokevirtual 96, 3) := by decide +kernel
theorem dX1_enter_5 : decode cX1_enter 5 = .ok (.istore 4, 2) := by decide +kernel
theorem dX1_enter_7 : decode cX1_enter 7 = .ok (.aload_n 1, 1) := by decide +kernel
theorem dX1_enter_8 : decode cX1_enter 8 = .ok (.iload_n 2, 1) := by decide +kernel
theorem dX1_enter_9 : decode cX1_enter 9 = .ok (.invokevirtual 107, 3) := by decide +kernel
theorem dX1_enter_12 : decode cX1_enter 12 = .ok (.istore 5, 2) := by decide +kernel
theorem dX1_enter_14 : decode cX1_enter 14 = .ok (.aload_n 1, 1) := by decide +kernel
theorem dX1_enter_15 : decode cX1_enter 15 = .ok (.iload_n 2, 1) := by decide +kernel
theorem dX1_enter_16 : decode cX1_enter 16 = .ok (.invokevirtual 110, 3) := by decide +kernel
theorem dX1_enter_19 : decode cX1_enter 19 = .ok (.aload_n 0, 1) := by decide +kernel
theorem dX1_enter_20 : decode cX1_enter 20 = .ok (.aload_n 1, 1) := by decide +kernel
theorem dX1_enter_21 : decode cX1_enter 21 = .ok (.aload_n 1, 1) := by decide +kernel
theorem dX1_enter_22 : decode cX1_enter 22 = .ok (.getfield 39, 3) := by decide +kernel
theorem dX1_enter_25 : decode cX1_enter 25 = .ok (.iload 4, 2) := by decide +kernel
theorem dX1_enter_27 : decode cX1_enter 27 = .ok (.iload_n 3, 1) := by decide +kernel
theorem dX1_enter_28 : decode cX1_enter 28 = .ok (.invokevirtual 49, 3) := by decide +kernel
theorem dX1_enter_31 : decode cX1_enter 31 = .ok (.iload 5, 2) := by decide +kernel
theorem dX1_enter_33 : decode cX1_enter 33 = .ok (.iconst 0, 1) := by decide +kernel
theorem dX1_enter_34 : decode cX1_enter 34 = .ok (.invokevirtual 32, 3) := by decide +kernel
theorem dX1_enter_37 : decode cX1_enter 37 = .ok (.return_, 1) := by decide +kernel
theorem dX1_decide_0 : decode cX1_decide 0 = .ok (.aload_n 0, 1) := by decide +kernel
theorem dX1_decide_1 : decode cX1_decide 1 = .ok (.iload_n 1, 1) := by decide +kernel
theorem dX1_decide_2 : decode cX1_decide 2 = .ok (.invokevirtual 114, 3) := by decide +kernel
theorem dX1_decide_5 : decode cX1_decide 5 = .ok (.astore 6, 2) := by decide +kernel
theorem dX1_decide_7 : decode cX1_decide 7 = .ok (.aload 6, 2) := by decide +kernel
theorem dX1_decide_9 : decode cX1_decide 9 = .ok (.ifnonnull 5, 3) := by decide +kernel
theorem dX1_decide_12 : decode cX1_decide 12 = .ok (.iconst (-1), 1) := by decide +kernel
theorem dX1_decide_13 : decode cX1_decide 13 = .ok (.ireturn, 1) := by decide +kernel
theorem dX1_decide_14 : decode cX1_decide 14 = .ok (.aload 6, 2) := by decide +kernel
theorem dX1_decide_16 : decode cX1_decide 16 = .ok (.getfield 39, 3) := by decide +kernel
theorem dX1_decide_19 : decode cX1_decide 19 = .ok (.astore 7, 2) := by decide +kernel
theorem dX1_decide_21 : decode cX1_decide 21 = .ok (.aload 6, 2) := by decide +kernel
theorem dX1_decide_23 : decode cX1_decide 23 = .ok (.iload_n 2, 1) := by decide +kernel
theorem dX1_decide_24 : decode cX1_decide 24 = .ok (.invokevirtual 96, 3) := by decide +kernel
theorem dX1_decide_27 : decode cX1_decide 27 = .ok (.istore 8, 2) := by decide +kernel
theorem dX1_decide_29 : decode cX1_decide 29 = .ok (.iload 8, 2) := by decide +kernel
theorem dX1_decide_31 : decode cX1_decide 31 = .ok (.iconst (-1), 1) := by decide +kernel
theorem dX1_decide_32 : decode cX1_decide 32 = .ok (.if_icmp .eq 27, 3) := by decide +kernel
theorem dX1_decide_35 : decode cX1_decide 35 = .ok (.aload 7, 2) := by decide +kernel
theorem dX1_decide_37 : decode cX1_decide 37 = .ok (.iload 8, 2) := by decide +kernel
theorem dX1_decide_39 : decode cX1_decide 39 = .ok (.iconst 0, 1) := by decide +kernel
theorem dX1_decide_40 : decode cX1_decide 40 = .ok (.invokevirtual 49, 3) := by decide +kernel
theorem dX1_decide_43 : decode cX1_decide 43 = .ok (.iload 4, 2) := by decide +kernel
theorem dX1_decide_45 : decode cX1_decide 45 = .ok (.if_icmp .ne 14, 3) := by decide +kernel
theorem dX1_decide_48 : decode cX1_decide 48 = .ok (.aload 6, 2) := by decide +kernel
theorem dX1_decide_50 : decode cX1_decide 50 = .ok (.iload 8, 2) := by decide +kernel
theorem dX1_decide_52 : decode cX1_decide 52 = .ok (.invokevirtual 118, 3) := by decide +kernel
theorem dX1_decide_55 : decode cX1_decide 55 = .ok (.iload_n 3, 1) := by decide +kernel
theorem dX1_decide_56 : decode cX1_decide 56 = .ok (.if_icmp .eq 5, 3) := by decide +kernel
theorem dX1_decide_59 : decode cX1_decide 59 = .ok (.iconst (-1), 1) := by decide +kernel
theorem dX1_decide_60 : decode cX1_decide 60 = .ok (.ireturn, 1) := by decide +kernel
theorem dX1_decide_61 : decode cX1_decide 61 = .ok (.aload 7, 2) := by decide +kernel
theorem dX1_decide_63 : decode cX1_decide 63 = .ok (.iload 8, 2) := by decide +kernel
theorem dX1_decide_65 : decode cX1_decide 65 = .ok (.aload_n 0, 1) := by decide +kernel
theorem dX1_decide_66 : decode cX1_decide 66 = .ok (.getfield 17, 3) := by decide +kernel
theorem dX1_decide_69 : decode cX1_decide 69 = .ok (.invokevirtual 43, 3) := by decide +kernel
theorem dX1_decide_72 : decode cX1_decide 72 = .ok (.ifCond .ne 24, 3) := by decide +kernel
theorem dX1_decide_75 : decode cX1_decide 75 = .ok (.iload 4, 2) := by decide +kernel
theorem dX1_decide_77 : decode cX1_decide 77 = .ok (.bipush 7, 2) := by decide +kernel
theorem dX1_decide_79 : decode cX1_decide 79 = .ok (.if_icmp .ne 19, 3) := by decide +kernel
theorem dX1_decide_82 : decode cX1_decide 82 = .ok (.aload 7, 2) := by decide +kernel
theorem dX1_decide_84 : decode cX1_decide 84 = .ok (.iload 8, 2) := by decide +kernel
theorem dX1_decide_86 : decode cX1_decide 86 = .ok (.aload_n 0, 1) := by decide +kernel
theorem dX1_decide_87 : decode cX1_decide 87 = .ok (.getfield 17, 3) := by decide +kernel
theorem dX1_decide_90 : decode cX1_decide 90 = .ok (.invokevirtual 70, 3) := by decide +kernel
theorem dX1_decide_93 : decode cX1_decide 93 = .ok (.ifCond .ne 5, 3) := by decide +kernel
theorem dX1_decide_96 : decode cX1_decide 96 = .ok (.iconst (-1), 1) := by decide +kernel
theorem dX1_decide_97 : decode cX1_decide 97 = .ok (.ireturn, 1) := by decide +kernel
theorem dX1_decide_98 : decode cX1_decide 98 = .ok (.aload_n 0, 1) := by decide +kernel
theorem dX1_decide_99 : decode cX1_decide 99 = .ok (.getfield 21, 3) := by decide +kernel
theorem dX1_decide_102 : decode cX1_decide 102 = .ok (.invokevirtual 121, 3) := by decide +kernel
theorem dX1_decide_105 : decode cX1_decide 105 = .ok (.istore 9, 2) := by decide +kernel
theorem dX1_decide_107 : decode cX1_decide 107 = .ok (.aload_n 0, 1) := by decide +kernel
theorem dX1_decide_108 : decode cX1_decide 108 = .ok (.aload 6, 2) := by decide +kernel
theorem dX1_decide_110 : decode cX1_decide 110 = .ok (.iload_n 2, 1) := by decide +kernel
theorem dX1_decide_111 : decode cX1_decide 111 = .ok (.iload 5, 2) := by decide +kernel
theorem dX1_decide_113 : decode cX1_decide 113 = .ok (.ifCond .ne 7, 3) := by decide +kernel
theorem dX1_decide_116 : decode cX1_decide 116 = .ok (.iconst 3, 1) := by decide +kernel
theorem dX1_decide_117 : decode cX1_decide 117 = .ok (.goto 4, 3) := by decide +kernel
theorem dX1_decide_120 : decode cX1_decide 120 = .ok (.iconst 4, 1) := by decide +kernel
theorem dX1_decide_121 : decode cX1_decide 121 = .ok (.invokevirtual 104, 3) := by decide +kernel
theorem dX1_decide_124 : decode cX1_decide 124 = .ok (.aload_n 0, 1) := by decide +kernel
theorem dX1_decide_125 : decode cX1_decide 125 = .ok (.getfield 21, 3) := by decide +kernel
theorem dX1_decide_128 : decode cX1_decide 128 = .ok (.invokevirtual 121, 3) := by decide +kernel
theorem dX1_decide_131 : decode cX1_decide 131 = .ok (.iload 9, 2) := by decide +kernel
theorem dX1_decide_133 : decode cX1_decide 133 = .ok (.isub, 1) := by decide +kernel
theorem dX1_decide_134 : decode cX1_decide 134 = .ok (.ireturn, 1) := by decide +kernel
theorem dX2_init_0 : decode cX2_init 0 = .ok (.aload_n 0, 1) := by decide +kernel
theorem dX2_init_1 : decode cX2_init 1 = .ok (.invokespecial 3, 3) := by decide +kernel
theorem dX2_init_4 : decode cX2_init 4 = .ok (.aload_n 0, 1) := by decide +kernel
theorem dX2_init_5 : decode cX2_init 5 = .ok (.iload_n 1, 1) := by decide +kernel
theorem dX2_init_6 : decode cX2_init 6 = .ok (.iconst 0, 1) := by decide +kernel
theorem dX2_init_7 : decode cX2_init 7 = .ok (.invokestatic 9, 3) := by decide +kernel
theorem dX2_init_10 : decode cX2_init 10 = .ok (.bipush 13, 2) := by decide +kernel
theorem dX2_init_12 : decode cX2_init 12 = .ok (.imul, 1) := by decide +kernel
theorem dX2_init_13 : decode cX2_init 13 = .ok (.newarray .int, 2) := by decide +kernel
theorem dX2_init_15 : decode cX2_init 15 = .ok (.putfield 15, 3) := by decide +kernel
theorem dX2_init_18 : decode cX2_init 18 = .ok (.aload_n 0, 1) := by decide +kernel
theorem dX2_init_19 : decode cX2_init 19 = .ok (.iload_n 2, 1) := by decide +kernel
theorem dX2_init_20 : decode cX2_init 20 = .ok (.iconst 0, 1) := by decide +kernel
theorem dX2_init_21 : decode cX2_init 21 = .ok (.invokestatic 9, 3) := by decide +kernel
theorem dX2_init_24 : decode cX2_init 24 = .ok (.iconst 2, 1) := by decide +kernel
theorem dX2_init_25 : decode cX2_init 25 = .ok (.imul, 1) := by decide +kernel
theorem dX2_init_26 : decode cX2_init 26 = .ok (.newarray .int, 2) := by decide +kernel
theorem dX2_init_28 : decode cX2_init 28 = .ok (.putfield 21, 3) := by decide +kernel
theorem dX2_init_31 : decode cX2_init 31 = .ok (.return_, 1) := by decide +kernel
theorem dX2_size_0 : decode cX2_size 0 = .ok (.aload_n 0, 1) := by decide +kernel
theorem dX2_size_1 : decode cX2_size 1 = .ok (.getfield 24, 3) := by decide +kernel
theorem dX2_size_4 : decode cX2_size 4 = .ok (.ireturn, 1) := by decide +kernel
theorem dX2_valueCount_0 : decode cX2_valueCount 0 = .ok (.aload_n 0, 1) := by decide +kernel
theorem dX2_valueCount_1 : decode cX2_valueCount 1 = .ok (.getfield 28, 3) := by decide +kernel
theorem dX2_valueCount_4 : decode cX2_valueCount 4 = .ok (.ireturn, 1) := by decide +kernel
theorem dX2_clear_0 : decode cX2_clear 0 = .ok (.aload_n 0, 1) := by decide +kernel
theorem dX2_clear_1 : decode cX2_clear 1 = .ok (.iconst 0, 1) := by decide +kernel
theorem dX2_clear_2 : decode cX2_clear 2 = .ok (.putfield 24, 3) := by decide +kernel
theorem dX2_clear_5 : decode cX2_clear 5 = .ok (.aload_n 0, 1) := by decide +kernel
theorem dX2_clear_6 : decode cX2_clear 6 = .ok (.iconst 0, 1) := by decide +kernel
theorem dX2_clear_7 : decode cX2_clear 7 = .ok (.putfield 28, 3) := by decide +kernel
theorem dX2_clear_10 : decode cX2_clear 10 = .ok (.return_, 1) := by decide +kernel
theorem dX2_field_0 : decode cX2_field 0 = .ok (.iload_n 1, 1) := by decide +kernel
theorem dX2_field_1 : decode cX2_field 1 = .ok (.ifCond .lt 21, 3) := by decide +kernel
theorem dX2_field_4 : decode cX2_field 4 = .ok (.iload_n 1, 1) := by decide +kernel
theorem dX2_field_5 : decode cX2_field 5 = .ok (.aload_n 0, 1) := by decide +kernel
theorem dX2_field_6 : decode cX2_field 6 = .ok (.getfield 24, 3) := by decide +kernel
theorem dX2_field_9 : decode cX2_field 9 = .ok (.if_icmp .ge 13, 3) := by decide +kernel
theorem dX2_field_12 : decode cX2_field 12 = .ok (.iload_n 2, 1) := by decide +kernel
theorem dX2_field_13 : decode cX2_field 13 = .ok (.ifCond .lt 9, 3) := by decide +kernel
theorem dX2_field_16 : decode cX2_field 16 = .ok (.iload_n 2, 1) := by decide +kernel
theorem dX2_field_17 : decode cX2_field 17 = .ok (.bipush 13, 2) := by decide +kernel
theorem dX2_field_19 : decode cX2_field 19 = .ok (.if_icmp .lt 5, 3) := by decide +kernel
theorem dX2_field_22 : decode cX2_field 22 = .ok (.iconst (-1), 1) := by decide +kernel
theorem dX2_field_23 : decode cX2_field 23 = .ok (.ireturn, 1) := by decide +kernel
theorem dX2_field_24 : decode cX2_field 24 = .ok (.iload_n 1, 1) := by decide +kernel
theorem dX2_field_25 : decode cX2_field 25 = .ok (.bipush 13, 2) := by decide +kernel
theorem dX2_field_27 : decode cX2_field 27 = .ok (.imul, 1) := by decide +kernel
theorem dX2_field_28 : decode cX2_field 28 = .ok (.iload_n 2, 1) := by decide +kernel
theorem dX2_field_29 : decode cX2_field 29 = .ok (.iadd, 1) := by decide +kernel
theorem dX2_field_30 : decode cX2_field 30 = .ok (.istore_n 3, 1) := by decide +kernel
theorem dX2_field_31 : decode cX2_field 31 = .ok (.iload_n 3, 1) := by decide +kernel
theorem dX2_field_32 : decode cX2_field 32 = .ok (.aload_n 0, 1) := by decide +kernel
theorem dX2_field_33 : decode cX2_field 33 = .ok (.getfield 15, 3) := by decide +kernel
theorem dX2_field_36 : decode cX2_field 36 = .ok (.arraylength, 1) := by decide +kernel
theorem dX2_field_37 : decode cX2_field 37 = .ok (.if_icmp .ge 12, 3) := by decide +kernel
theorem dX2_field_40 : decode cX2_field 40 = .ok (.aload_n 0, 1) := by decide +kernel
theorem dX2_field_41 : decode cX2_field 41 = .ok (.getfield 15, 3) := by decide +kernel
theorem dX2_field_44 : decode cX2_field 44 = .ok (.iload_n 3, 1) := by decide +kernel
theorem dX2_field_45 : decode cX2_field 45 = .ok (.iaload, 1) := by decide +kernel
theorem dX2_field_46 : decode cX2_field 46 = .ok (.goto 4, 3) := by decide +kernel
theorem dX2_field_49 : decode cX2_field 49 = .ok (.iconst (-1), 1) := by decide +kernel
theorem dX2_field_50 : decode cX2_field 50 = .ok (.ireturn, 1) := by decide +kernel
theorem dX2_setField_0 : decode cX2_setField 0 = .ok (.iload_n 1, 1) := by decide +kernel
theorem dX2_setField_1 : decode cX2_setField 1 = .ok (.ifCond .lt 21, 3) := by decide +kernel
theorem dX2_setField_4 : decode cX2_setField 4 = .ok (.iload_n 1, 1) := by decide +kernel
theorem dX2_setField_5 : decode cX2_setField 5 = .ok (.aload_n 0, 1) := by decide +kernel
theorem dX2_setField_6 : decode cX2_setField 6 = .ok (.getfield 24, 3) := by decide +kernel
theorem dX2_setField_9 : decode cX2_setField 9 = .ok (.if_icmp .ge 13, 3) := by decide +kernel
theorem dX2_setField_12 : decode cX2_setField 12 = .ok (.iload_n 2, 1) := by decide +kernel
theorem dX2_setField_13 : decode cX2_setField 13 = .ok (.ifCond .lt 9, 3) := by decide +kernel
theorem dX2_setField_16 : decode cX2_setField 16 = .ok (.iload_n 2, 1) := by decide +kernel
theorem dX2_setField_17 : decode cX2_setField 17 = .ok (.bipush 13, 2) := by decide +kernel
theorem dX2_setField_19 : decode cX2_setField 19 = .ok (.if_icmp .lt 4, 3) := by decide +kernel
theorem dX2_setField_22 : decode cX2_setField 22 = .ok (.return_, 1) := by decide +kernel
theorem dX2_setField_23 : decode cX2_setField 23 = .ok (.iload_n 1, 1) := by decide +kernel
theorem dX2_setField_24 : decode cX2_setField 24 = .ok (.bipush 13, 2) := by decide +kernel
theorem dX2_setField_26 : decode cX2_setField 26 = .ok (.imul, 1) := by decide +kernel
theorem dX2_setField_27 : decode cX2_setField 27 = .ok (.iload_n 2, 1) := by decide +kernel
theorem dX2_setField_28 : decode cX2_setField 28 = .ok (.iadd, 1) := by decide +kernel
theorem dX2_setField_29 : decode cX2_setField 29 = .ok (.istore 4, 2) := by decide +kernel
theorem dX2_setField_31 : decode cX2_setField 31 = .ok (.iload 4, 2) := by decide +kernel
theorem dX2_setField_33 : decode cX2_setField 33 = .ok (.aload_n 0, 1) := by decide +kernel
theorem dX2_setField_34 : decode cX2_setField 34 = .ok (.getfield 15, 3) := by decide +kernel
theorem dX2_setField_37 : decode cX2_setField 37 = .ok (.arraylength, 1) := by decide +kernel
theorem dX2_setField_38 : decode cX2_setField 38 = .ok (.if_icmp .ge 11, 3) := by decide +kernel
theorem dX2_setField_41 : decode cX2_setField 41 = .ok (.aload_n 0, 1) := by decide +kernel
theorem dX2_setField_42 : decode cX2_setField 42 = .ok (.getfield 15, 3) := by decide +kernel
theorem dX2_setField_45 : decode cX2_setField 45 = .ok (.iload 4, 2) := by decide +kernel
theorem dX2_setField_47 : decode cX2_setField 47 = .ok (.iload_n 3, 1) := by decide +kernel
theorem dX2_setField_48 : decode cX2_setField 48 = .ok (.iastore, 1) := by decide +kernel
theorem dX2_setField_49 : decode cX2_setField 49 = .ok (.return_, 1) := by decide +kernel
theorem dX2_grow_0 : decode cX2_grow 0 = .ok (.aload_n 0, 1) := by decide +kernel
theorem dX2_grow_1 : decode cX2_grow 1 = .ok (.getfield 24, 3) := by decide +kernel
theorem dX2_grow_4 : decode cX2_grow 4 = .ok (.istore_n 3, 1) := by decide +kernel
theorem dX2_grow_5 : decode cX2_grow 5 = .ok (.iload_n 3, 1) := by decide +kernel
theorem dX2_grow_6 : decode cX2_grow 6 = .ok (.ifCond .lt 28, 3) := by decide +kernel
theorem dX2_grow_9 : decode cX2_grow 9 = .ok (.iload_n 3, 1) := by decide +kernel
theorem dX2_grow_10 : decode cX2_grow 10 = .ok (.iconst 1, 1) := by decide +kernel
theorem dX2_grow_11 : decode cX2_grow 11 = .ok (.iadd, 1) := by decide +kernel
theorem dX2_grow_12 : decode cX2_grow 12 = .ok (.bipush 13, 2) := by decide +kernel
theorem dX2_grow_14 : decode cX2_grow 14 = .ok (.imul, 1) := by decide +kernel
theorem dX2_grow_15 : decode cX2_grow 15 = .ok (.aload_n 0, 1) := by decide +kernel
theorem dX2_grow_16 : decode cX2_grow 16 = .ok (.getfield 15, 3) := by decide +kernel
theorem dX2_grow_19 : decode cX2_grow 19 = .ok (.arraylength, 1) := by decide +kernel
theorem dX2_grow_20 : decode cX2_grow 20 = .ok (.if_icmp .gt 14, 3) := by decide +kernel
theorem dX2_grow_23 : decode cX2_grow 23 = .ok (.aload_n 0, 1) := by decide +kernel
theorem dX2_grow_24 : decode cX2_grow 24 = .ok (.iload_n 2, 1) := by decide +kernel
theorem dX2_grow_25 : decode cX2_grow 25 = .ok (.iconst 1, 1) := by decide +kernel
theorem dX2_grow_26 : decode cX2_grow 26 = .ok (.invokevirtual 31, 3) := by decide +kernel
theorem dX2_grow_29 : decode cX2_grow 29 = .ok (.bipush 11, 2) := by decide +kernel
theorem dX2_grow_31 : decode cX2_grow 31 = .ok (.if_icmp .lt 5, 3) := by decide +kernel
theorem dX2_grow_34 : decode cX2_grow 34 = .ok (.iconst (-1), 1) := by decide +kernel
theorem dX2_grow_35 : decode cX2_grow 35 = .ok (.ireturn, 1) := by decide +kernel
theorem dX2_grow_36 : decode cX2_grow 36 = .ok (.aload_n 0, 1) := by decide +kernel
theorem dX2_grow_37 : decode cX2_grow 37 = .ok (.dup, 1) := by decide +kernel
theorem dX2_grow_38 : decode cX2_grow 38 = .ok (.getfield 24, 3) := by decide +kernel
theorem dX2_grow_41 : decode cX2_grow 41 = .ok (.iconst 1, 1) := by decide +kernel
theorem dX2_grow_42 : decode cX2_grow 42 = .ok (.iadd, 1) := by decide +kernel
theorem dX2_grow_43 : decode cX2_grow 43 = .ok (.putfield 24, 3) := by decide +kernel
theorem dX2_grow_46 : decode cX2_grow 46 = .ok (.iconst 0, 1) := by decide +kernel
theorem dX2_grow_47 : decode cX2_grow 47 = .ok (.istore 4, 2) := by decide +kernel
theorem dX2_grow_49 : decode cX2_grow 49 = .ok (.iload 4, 2) := by decide +kernel
theorem dX2_grow_51 : decode cX2_grow 51 = .ok (.bipush 13, 2) := by decide +kernel
theorem dX2_grow_53 : decode cX2_grow 53 = .ok (.if_icmp .ge 17, 3) := by decide +kernel
theorem dX2_grow_56 : decode cX2_grow 56 = .ok (.aload_n 0, 1) := by decide +kernel
theorem dX2_grow_57 : decode cX2_grow 57 = .ok (.iload_n 3, 1) := by decide +kernel
theorem dX2_grow_58 : decode cX2_grow 58 = .ok (.iload 4, 2) := by decide +kernel
theorem dX2_grow_60 : decode cX2_grow 60 = .ok (.iconst (-1), 1) := by decide +kernel
theorem dX2_grow_61 : decode cX2_grow 61 = .ok (.invokevirtual 34, 3) := by decide +kernel
theorem dX2_grow_64 : decode cX2_grow 64 = .ok (.iinc 4 1, 3) := by decide +kernel
theorem dX2_grow_67 : decode cX2_grow 67 = .ok (.goto (-18), 3) := by decide +kernel
theorem dX2_grow_70 : decode cX2_grow 70 = .ok (.aload_n 0, 1) := by decide +kernel
theorem dX2_grow_71 : decode cX2_grow 71 = .ok (.iload_n 3, 1) := by decide +kernel
theorem dX2_grow_72 : decode cX2_grow 72 = .ok (.iconst 0, 1) := by decide +kernel
theorem dX2_grow_73 : decode cX2_grow 73 = .ok (.iload_n 1, 1) := by decide +kernel
theorem dX2_grow_74 : decode cX2_grow 74 = .ok (.invokevirtual 34, 3) := by decide +kernel
theorem dX2_grow_77 : decode cX2_grow 77 = .ok (.aload_n 0, 1) := by decide +kernel
theorem dX2_grow_78 : decode cX2_grow 78 = .ok (.iload_n 3, 1) := by decide +kernel
theorem dX2_grow_79 : decode cX2_grow 79 = .ok (.iconst 1, 1) := by decide +kernel
theorem dX2_grow_80 : decode cX2_grow 80 = .ok (.iconst 0, 1) := by decide +kernel
theorem dX2_grow_81 : decode cX2_grow 81 = .ok (.invokevirtual 34, 3) := by decide +kernel
theorem dX2_grow_84 : decode cX2_grow 84 = .ok (.aload_n 0, 1) := by decide +kernel
theorem dX2_grow_85 : decode cX2_grow 85 = .ok (.iload_n 3, 1) := by decide +kernel
theorem dX2_grow_86 : decode cX2_grow 86 = .ok (.bipush 10, 2) := by decide +kernel
theorem dX2_grow_88 : decode cX2_grow 88 = .ok (.iconst 0, 1) := by decide +kernel
theorem dX2_grow_89 : decode cX2_grow 89 = .ok (.invokevirtual 34, 3) := by decide +kernel
theorem dX2_grow_92 : decode cX2_grow 92 = .ok (.aload_n 0, 1) := by decide +kernel
theorem dX2_grow_93 : decode cX2_grow 93 = .ok (.iload_n 3, 1) := by decide +kernel
theorem dX2_grow_94 : decode cX2_grow 94 = .ok (.bipush 12, 2) := by decide +kernel
theorem dX2_grow_96 : decode cX2_grow 96 = .ok (.iconst 0, 1) := by decide +kernel
theorem dX2_grow_97 : decode cX2_grow 97 = .ok (.invokevirtual 34, 3) := by decide +kernel
theorem dX2_grow_100 : decode cX2_grow 100 = .ok (.iload_n 2, 1) := by decide +kernel
theorem dX2_grow_101 : decode cX2_grow 101 = .ok (.ifCond .lt 14, 3) := by decide +kernel
theorem dX2_grow_104 : decode cX2_grow 104 = .ok (.iload_n 2, 1) := by decide +kernel
theorem dX2_grow_105 : decode cX2_grow 105 = .ok (.iload_n 3, 1) := by decide +kernel
theorem dX2_grow_106 : decode cX2_grow 106 = .ok (.if_icmp .ge 9, 3) := by decide +kernel
theorem dX2_grow_109 : decode cX2_grow 109 = .ok (.aload_n 0, 1) := by decide +kernel
theorem dX2_grow_110 : decode cX2_grow 110 = .ok (.iload_n 3, 1) := by decide +kernel
theorem dX2_grow_111 : decode cX2_grow 111 = .ok (.iload_n 2, 1) := by decide +kernel
theorem dX2_grow_112 : decode cX2_grow 112 = .ok (.invokevirtual 38, 3) := by decide +kernel
theorem dX2_grow_115 : decode cX2_grow 115 = .ok (.iload_n 3, 1) := by decide +kernel
theorem dX2_grow_116 : decode cX2_grow 116 = .ok (.ireturn, 1) := by decide +kernel
theorem dX2_inherit_0 : decode cX2_inherit 0 = .ok (.aload_n 0, 1) := by decide +kernel
theorem dX2_inherit_1 : decode cX2_inherit 1 = .ok (.iload_n 2, 1) := by decide +kernel
theorem dX2_inherit_2 : decode cX2_inherit 2 = .ok (.iconst 0, 1) := by decide +kernel
theorem dX2_inherit_3 : decode cX2_inherit 3 = .ok (.invokevirtual 31, 3) := by decide +kernel
theorem dX2_inherit_6 : decode cX2_inherit 6 = .ok (.istore_n 3, 1) := by decide +kernel
theorem dX2_inherit_7 : decode cX2_inherit 7 = .ok (.aload_n 0, 1) := by decide +kernel
theorem dX2_inherit_8 : decode cX2_inherit 8 = .ok (.iload_n 2, 1) := by decide +kernel
theorem dX2_inherit_9 : decode cX2_inherit 9 = .ok (.bipush 10, 2) := by decide +kernel
theorem dX2_inherit_11 : decode cX2_inherit 11 = .ok (.invokevirtual 31, 3) := by decide +kernel
theorem dX2_inherit_14 : decode cX2_inherit 14 = .ok (.istore 4, 2) := by decide +kernel
theorem dX2_inherit_16 : decode cX2_inherit 16 = .ok (.aload_n 0, 1) := by decide +kernel
theorem dX2_inherit_17 : decode cX2_inherit 17 = .ok (.iload_n 2, 1) := by decide +kernel
theorem dX2_inherit_18 : decode cX2_inherit 18 = .ok (.bipush 9, 2) := by decide +kernel
theorem dX2_inherit_20 : decode cX2_inherit 20 = .ok (.invokevirtual 31, 3) := by decide +kernel
theorem dX2_inherit_23 : decode cX2_inherit 23 = .ok (.istore 5, 2) := by decide +kernel
theorem dX2_inherit_25 : decode cX2_inherit 25 = .ok (.aload_n 0, 1) := by decide +kernel
theorem dX2_inherit_26 : decode cX2_inherit 26 = .ok (.iload_n 2, 1) := by decide +kernel
theorem dX2_inherit_27 : decode cX2_inherit 27 = .ok (.iconst 2, 1) := by decide +kernel
theorem dX2_inherit_28 : decode cX2_inherit 28 = .ok (.invokevirtual 31, 3) := by decide +kernel
theorem dX2_inherit_31 : decode cX2_inherit 31 = .ok (.istore 6, 2) := by decide +kernel
theorem dX2_inherit_33 : decode cX2_inherit 33 = .ok (.aload_n 0, 1) := by decide +kernel
theorem dX2_inherit_34 : decode cX2_inherit 34 = .ok (.iload_n 2, 1) := by decide +kernel
theorem dX2_inherit_35 : decode cX2_inherit 35 = .ok (.aload_n 0, 1) := by decide +kernel
theorem dX2_inherit_36 : decode cX2_inherit 36 = .ok (.iload_n 2, 1) := by decide +kernel
theorem dX2_inherit_37 : decode cX2_inherit 37 = .ok (.iconst 3, 1) := by decide +kernel
theorem dX2_inherit_38 : decode cX2_inherit 38 = .ok (.invokevirtual 31, 3) := by decide +kernel
theorem dX2_inherit_41 : decode cX2_inherit 41 = .ok (.iconst (-1), 1) := by decide +kernel
theorem dX2_inherit_42 : decode cX2_inherit 42 = .ok (.if_icmp .ne 7, 3) := by decide +kernel
theorem dX2_inherit_45 : decode cX2_inherit 45 = .ok (.iconst 3, 1) := by decide +kernel
theorem dX2_inherit_46 : decode cX2_inherit 46 = .ok (.goto 4, 3) := by decide +kernel
theorem dX2_inherit_49 : decode cX2_inherit 49 = .ok (.iconst 4, 1) := by decide +kernel
theorem dX2_inherit_50 : decode cX2_inherit 50 = .ok (.iload_n 1, 1) := by decide +kernel
theorem dX2_inherit_51 : decode cX2_inherit 51 = .ok (.invokevirtual 34, 3) := by decide +kernel
theorem dX2_inherit_54 : decode cX2_inherit 54 = .ok (.aload_n 0, 1) := by decide +kernel
theorem dX2_inherit_55 : decode cX2_inherit 55 = .ok (.iload_n 1, 1) := by decide +kernel
theorem dX2_inherit_56 : decode cX2_inherit 56 = .ok (.iconst 1, 1) := by decide +kernel
theorem dX2_inherit_57 : decode cX2_inherit 57 = .ok (.aload_n 0, 1) := by decide +kernel
theorem dX2_inherit_58 : decode cX2_inherit 58 = .ok (.iload_n 2, 1) := by decide +kernel
theorem dX2_inherit_59 : decode cX2_inherit 59 = .ok (.iconst 1, 1) := by decide +kernel
theorem dX2_inherit_60 : decode cX2_inherit 60 = .ok (.invokevirtual 31, 3) := by decide +kernel
theorem dX2_inherit_63 : decode cX2_inherit 63 = .ok (.iconst 1, 1) := by decide +kernel
theorem dX2_inherit_64 : decode cX2_inherit 64 = .ok (.iadd, 1) := by decide +kernel
theorem dX2_inherit_65 : decode cX2_inherit 65 = .ok (.invokevirtual 34, 3) := by decide +kernel
theorem dX2_inherit_68 : decode cX2_inherit 68 = .ok (.aload_n 0, 1) := by decide +kernel
theorem dX2_inherit_69 : decode cX2_inherit 69 = .ok (.iload_n 1, 1) := by decide +kernel
theorem dX2_inherit_70 : decode cX2_inherit 70 = .ok (.bipush 10, 2) := by decide +kernel
theorem dX2_inherit_72 : decode cX2_inherit 72 = .ok (.iload_n 3, 1) := by decide +kernel
theorem dX2_inherit_73 : decode cX2_inherit 73 = .ok (.iconst 2, 1) := by decide +kernel
theorem dX2_inherit_74 : decode cX2_inherit 74 = .ok (.if_icmp .ne 10, 3) := by decide +kernel
theorem dX2_inherit_77 : decode cX2_inherit 77 = .ok (.iconst 1, 1) := by decide +kernel
theorem dX2_inherit_78 : decode cX2_inherit 78 = .ok (.iload 4, 2) := by decide +kernel
theorem dX2_inherit_80 : decode cX2_inherit 80 = .ok (.isub, 1) := by decide +kernel
theorem dX2_inherit_81 : decode cX2_inherit 81 = .ok (.goto 5, 3) := by decide +kernel
theorem dX2_inherit_84 : decode cX2_inherit 84 = .ok (.iload 4, 2) := by decide +kernel
theorem dX2_inherit_86 : decode cX2_inherit 86 = .ok (.invokevirtual 34, 3) := by decide +kernel
theorem dX2_inherit_89 : decode cX2_inherit 89 = .ok (.iload_n 3, 1) := by decide +kernel
theorem dX2_inherit_90 : decode cX2_inherit 90 = .ok (.bipush 10, 2) := by decide +kernel
theorem dX2_inherit_92 : decode cX2_inherit 92 = .ok (.if_icmp .ne 23, 3) := by decide +kernel
theorem dX2_inherit_95 : decode cX2_inherit 95 = .ok (.iload 5, 2) := by decide +kernel
theorem dX2_inherit_97 : decode cX2_inherit 97 = .ok (.iconst (-1), 1) := by decide +kernel
theorem dX2_inherit_98 : decode cX2_inherit 98 = .ok (.if_icmp .ne 8, 3) := by decide +kernel
theorem dX2_inherit_101 : decode cX2_inherit 101 = .ok (.iload 6, 2) := by decide +kernel
theorem dX2_inherit_103 : decode cX2_inherit 103 = .ok (.goto 10, 3) := by decide +kernel
theorem dX2_inherit_106 : decode cX2_inherit 106 = .ok (.iload 5, 2) := by decide +kernel
theorem dX2_inherit_108 : decode cX2_inherit 108 = .ok (.iload 6, 2) := by decide +kernel
theorem dX2_inherit_110 : decode cX2_inherit 110 = .ok (.invokestatic 42, 3) := by decide +kernel
theorem dX2_inherit_113 : decode cX2_inherit 113 = .ok (.istore 5, 2) := by decide +kernel
theorem dX2_inherit_115 : decode cX2_inherit 115 = .ok (.aload_n 0, 1) := by decide +kernel
theorem dX2_inherit_116 : decode cX2_inherit 116 = .ok (.iload_n 1, 1) := by decide +kernel
theorem dX2_inherit_117 : decode cX2_inherit 117 = .ok (.bipush 9, 2) := by decide +kernel
theorem dX2_inherit_119 : decode cX2_inherit 119 = .ok (.iload 5, 2) := by decide +kernel
theorem dX2_inherit_121 : decode cX2_inherit 121 = .ok (.invokevirtual 34, 3) := by decide +kernel
theorem dX2_inherit_124 : decode cX2_inherit 124 = .ok (.aload_n 0, 1) := by decide +kernel
theorem dX2_inherit_125 : decode cX2_inherit 125 = .ok (.iload_n 1, 1) := by decide +kernel
theorem dX2_inherit_126 : decode cX2_inherit 126 = .ok (.bipush 11, 2) := by decide +kernel
theorem dX2_inherit_128 : decode cX2_inherit 128 = .ok (.iload_n 3, 1) := by decide +kernel
theorem dX2_inherit_129 : decode cX2_inherit 129 = .ok (.bipush 8, 2) := by decide +kernel
theorem dX2_inherit_131 : decode cX2_inherit 131 = .ok (.if_icmp .ne 7, 3) := by decide +kernel
theorem dX2_inherit_134 : decode cX2_inherit 134 = .ok (.iload_n 2, 1) := by decide +kernel
theorem dX2_inherit_135 : decode cX2_inherit 135 = .ok (.goto 10, 3) := by decide +kernel
theorem dX2_inherit_138 : decode cX2_inherit 138 = .ok (.aload_n 0, 1) := by decide +kernel
theorem dX2_inherit_139 : decode cX2_inherit 139 = .ok (.iload_n 2, 1) := by decide +kernel
theorem dX2_inherit_140 : decode cX2_inherit 140 = .ok (.bipush 11, 2) := by decide +kernel
theorem dX2_inherit_142 : decode cX2_inherit 142 = .ok (.invokevirtual 31, 3) := by decide +kernel
theorem dX2_inherit_145 : decode cX2_inherit 145 = .ok (.invokevirtual 34, 3) := by decide +kernel
theorem dX2_inherit_148 : decode cX2_inherit 148 = .ok (.aload_n 0, 1) := by decide +kernel
theorem dX2_inherit_149 : decode cX2_inherit 149 = .ok (.iload_n 1, 1) := by decide +kernel
theorem dX2_inherit_150 : decode cX2_inherit 150 = .ok (.bipush 12, 2) := by decide +kernel
theorem dX2_inherit_152 : decode cX2_inherit 152 = .ok (.aload_n 0, 1) := by decide +kernel
theorem dX2_inherit_153 : decode cX2_inherit 153 = .ok (.iload_n 2, 1) := by decide +kernel
theorem dX2_inherit_154 : decode cX2_inherit 154 = .ok (.bipush 12, 2) := by decide +kernel
theorem dX2_inherit_156 : decode cX2_inherit 156 = .ok (.invokevirtual 31, 3) := by decide +kernel
theorem dX2_inherit_159 : decode cX2_inherit 159 = .ok (.iload_n 3, 1) := by decide +kernel
theorem dX2_inherit_160 : decode cX2_inherit 160 = .ok (.bipush 8, 2) := by decide +kernel
theorem dX2_inherit_162 : decode cX2_inherit 162 = .ok (.if_icmp .ne 7, 3) := by decide +kernel
theorem dX2_inherit_165 : decode cX2_inherit 165 = .ok (.iconst 1, 1) := by decide +kernel
theorem dX2_inherit_166 : decode cX2_inherit 166 = .ok (.goto 4, 3) := by decide +kernel
theorem dX2_inherit_169 : decode cX2_inherit 169 = .ok (.iconst 0, 1) := by decide +kernel
theorem dX2_inherit_170 : decode cX2_inherit 170 = .ok (.iadd, 1) := by decide +kernel
theorem dX2_inherit_171 : decode cX2_inherit 171 = .ok (.invokevirtual 34, 3) := by decide +kernel
theorem dX2_inherit_174 : decode cX2_inherit 174 = .ok (.return_, 1) := by decide +kernel
theorem dX2_addValue_0 : decode cX2_addValue 0 = .ok (.aload_n 0, 1) := by decide +kernel
theorem dX2_addValue_1 : decode cX2_addValue 1 = .ok (.getfield 28, 3) := by decide +kernel
theorem dX2_addValue_4 : decode cX2_addValue 4 = .ok (.iconst 2, 1) := by decide +kernel
theorem dX2_addValue_5 : decode cX2_addValue 5 = .ok (.imul, 1) := by decide +kernel
theorem dX2_addValue_6 : decode cX2_addValue 6 = .ok (.istore_n 3, 1) := by decide +kernel
theorem dX2_addValue_7 : decode cX2_addValue 7 = .ok (.iload_n 3, 1) := by decide +kernel
theorem dX2_addValue_8 : decode cX2_addValue 8 = .ok (.ifCond .lt 14, 3) := by decide +kernel
theorem dX2_addValue_11 : decode cX2_addValue 11 = .ok (.iload_n 3, 1) := by decide +kernel
theorem dX2_addValue_12 : decode cX2_addValue 12 = .ok (.iconst 1, 1) := by decide +kernel
theorem dX2_addValue_13 : decode cX2_addValue 13 = .ok (.iadd, 1) := by decide +kernel
theorem dX2_addValue_14 : decode cX2_addValue 14 = .ok (.aload_n 0, 1) := by decide +kernel
theorem dX2_addValue_15 : decode cX2_addValue 15 = .ok (.getfield 21, 3) := by decide +kernel
theorem dX2_addValue_18 : decode cX2_addValue 18 = .ok (.arraylength, 1) := by decide +kernel
theorem dX2_addValue_19 : decode cX2_addValue 19 = .ok (.if_icmp .lt 5, 3) := by decide +kernel
theorem dX2_addValue_22 : decode cX2_addValue 22 = .ok (.iconst 0, 1) := by decide +kernel
theorem dX2_addValue_23 : decode cX2_addValue 23 = .ok (.ireturn, 1) := by decide +kernel
theorem dX2_addValue_24 : decode cX2_addValue 24 = .ok (.aload_n 0, 1) := by decide +kernel
theorem dX2_addValue_25 : decode cX2_addValue 25 = .ok (.getfield 21, 3) := by decide +kernel
theorem dX2_addValue_28 : decode cX2_addValue 28 = .ok (.iload_n 3, 1) := by decide +kernel
theorem dX2_addValue_29 : decode cX2_addValue 29 = .ok (.iload_n 1, 1) := by decide +kernel
theorem dX2_addValue_30 : decode cX2_addValue 30 = .ok (.iastore, 1) := by decide +kernel
theorem dX2_addValue_31 : decode cX2_addValue 31 = .ok (.aload_n 0, 1) := by decide +kernel
theorem dX2_addValue_32 : decode cX2_addValue 32 = .ok (.getfield 21, 3) := by decide +kernel
theorem dX2_addValue_35 : decode cX2_addValue 35 = .ok (.iload_n 3, 1) := by decide +kernel
theorem dX2_addValue_36 : decode cX2_addValue 36 = .ok (.iconst 1, 1) := by decide +kernel
theorem dX2_addValue_37 : decode cX2_addValue 37 = .ok (.iadd, 1) := by decide +kernel
theorem dX2_addValue_38 : decode cX2_addValue 38 = .ok (.iload_n 2, 1) := by decide +kernel
theorem dX2_addValue_39 : decode cX2_addValue 39 = .ok (.iastore, 1) := by decide +kernel
theorem dX2_addValue_40 : decode cX2_addValue 40 = .ok (.aload_n 0, 1) := by decide +kernel
theorem dX2_addValue_41 : decode cX2_addValue 41 = .ok (.dup, 1) := by decide +kernel
theorem dX2_addValue_42 : decode cX2_addValue 42 = .ok (.getfield 28, 3) := by decide +kernel
theorem dX2_addValue_45 : decode cX2_addValue 45 = .ok (.iconst 1, 1) := by decide +kernel
theorem dX2_addValue_46 : decode cX2_addValue 46 = .ok (.iadd, 1) := by decide +kernel
theorem dX2_addValue_47 : decode cX2_addValue 47 = .ok (.putfield 28, 3) := by decide +kernel
theorem dX2_addValue_50 : decode cX2_addValue 50 = .ok (.iconst 1, 1) := by decide +kernel
theorem dX2_addValue_51 : decode cX2_addValue 51 = .ok (.ireturn, 1) := by decide +kernel
theorem dX2_joint_0 : decode cX2_joint 0 = .ok (.iload_n 1, 1) := by decide +kernel
theorem dX2_joint_1 : decode cX2_joint 1 = .ok (.iconst 2, 1) := by decide +kernel
theorem dX2_joint_2 : decode cX2_joint 2 = .ok (.imul, 1) := by decide +kernel
theorem dX2_joint_3 : decode cX2_joint 3 = .ok (.istore_n 2, 1) := by decide +kernel
theorem dX2_joint_4 : decode cX2_joint 4 = .ok (.iload_n 1, 1) := by decide +kernel
theorem dX2_joint_5 : decode cX2_joint 5 = .ok (.ifCond .lt 29, 3) := by decide +kernel
theorem dX2_joint_8 : decode cX2_joint 8 = .ok (.iload_n 1, 1) := by decide +kernel
theorem dX2_joint_9 : decode cX2_joint 9 = .ok (.aload_n 0, 1) := by decide +kernel
theorem dX2_joint_10 : decode cX2_joint 10 = .ok (.getfield 28, 3) := by decide +kernel
theorem dX2_joint_13 : decode cX2_joint 13 = .ok (.if_icmp .ge 21, 3) := by decide +kernel
theorem dX2_joint_16 : decode cX2_joint 16 = .ok (.iload_n 2, 1) := by decide +kernel
theorem dX2_joint_17 : decode cX2_joint 17 = .ok (.aload_n 0, 1) := by decide +kernel
theorem dX2_joint_18 : decode cX2_joint 18 = .ok (.getfield 21, 3) := by decide +kernel
theorem dX2_joint_21 : decode cX2_joint 21 = .ok (.arraylength, 1) := by decide +kernel
theorem dX2_joint_22 : decode cX2_joint 22 = .ok (.if_icmp .ge 12, 3) := by decide +kernel
theorem dX2_joint_25 : decode cX2_joint 25 = .ok (.aload_n 0, 1) := by decide +kernel
theorem dX2_joint_26 : decode cX2_joint 26 = .ok (.getfield 21, 3) := by decide +kernel
theorem dX2_joint_29 : decode cX2_joint 29 = .ok (.iload_n 2, 1) := by decide +kernel
theorem dX2_joint_30 : decode cX2_joint 30 = .ok (.iaload, 1) := by decide +kernel
theorem dX2_joint_31 : decode cX2_joint 31 = .ok (.goto 4, 3) := by decide +kernel
theorem dX2_joint_34 : decode cX2_joint 34 = .ok (.iconst (-1), 1) := by decide +kernel
theorem dX2_joint_35 : decode cX2_joint 35 = .ok (.ireturn, 1) := by decide +kernel
theorem dX2_value_0 : decode cX2_value 0 = .ok (.iload_n 1, 1) := by decide +kernel
theorem dX2_value_1 : decode cX2_value 1 = .ok (.iconst 2, 1) := by decide +kernel
theorem dX2_value_2 : decode cX2_value 2 = .ok (.imul, 1) := by decide +kernel
theorem dX2_value_3 : decode cX2_value 3 = .ok (.iconst 1, 1) := by decide +kernel
theorem dX2_value_4 : decode cX2_value 4 = .ok (.iadd, 1) := by decide +kernel
theorem dX2_value_5 : decode cX2_value 5 = .ok (.istore_n 2, 1) := by decide +kernel
theorem dX2_value_6 : decode cX2_value 6 = .ok (.iload_n 1, 1) := by decide +kernel
theorem dX2_value_7 : decode cX2_value 7 = .ok (.ifCond .lt 29, 3) := by decide +kernel
theorem dX2_value_10 : decode cX2_value 10 = .ok (.iload_n 1, 1) := by decide +kernel
theorem dX2_value_11 : decode cX2_value 11 = .ok (.aload_n 0, 1) := by decide +kernel
theorem dX2_value_12 : decode cX2_value 12 = .ok (.getfield 28, 3) := by decide +kernel
theorem dX2_value_15 : decode cX2_value 15 = .ok (.if_icmp .ge 21, 3) := by decide +kernel
theorem dX2_value_18 : decode cX2_value 18 = .ok (.iload_n 2, 1) := by decide +kernel
theorem dX2_value_19 : decode cX2_value 19 = .ok (.aload_n 0, 1) := by decide +kernel
theorem dX2_value_20 : decode cX2_value 20 = .ok (.getfield 21, 3) := by decide +kernel
theorem dX2_value_23 : decode cX2_value 23 = .ok (.arraylength, 1) := by decide +kernel
theorem dX2_value_24 : decode cX2_value 24 = .ok (.if_icmp .ge 12, 3) := by decide +kernel
theorem dX2_value_27 : decode cX2_value 27 = .ok (.aload_n 0, 1) := by decide +kernel
theorem dX2_value_28 : decode cX2_value 28 = .ok (.getfield 21, 3) := by decide +kernel
theorem dX2_value_31 : decode cX2_value 31 = .ok (.iload_n 2, 1) := by decide +kernel
theorem dX2_value_32 : decode cX2_value 32 = .ok (.iaload, 1) := by decide +kernel
theorem dX2_value_33 : decode cX2_value 33 = .ok (.goto 4, 3) := by decide +kernel
theorem dX2_value_36 : decode cX2_value 36 = .ok (.iconst (-1), 1) := by decide +kernel
theorem dX2_value_37 : decode cX2_value 37 = .ok (.ireturn, 1) := by decide +kernel
theorem dX2_sum_0 : decode cX2_sum 0 = .ok (.lconst 0, 1) := by decide +kernel
theorem dX2_sum_1 : decode cX2_sum 1 = .ok (.lstore 4, 2) := by decide +kernel
theorem dX2_sum_3 : decode cX2_sum 3 = .ok (.lconst 0, 1) := by decide +kernel
theorem dX2_sum_4 : decode cX2_sum 4 = .ok (.lstore 6, 2) := by decide +kernel
theorem dX2_sum_6 : decode cX2_sum 6 = .ok (.iload_n 1, 1) := by decide +kernel
theorem dX2_sum_7 : decode cX2_sum 7 = .ok (.iconst 0, 1) := by decide +kernel
theorem dX2_sum_8 : decode cX2_sum 8 = .ok (.invokestatic 9, 3) := by decide +kernel
theorem dX2_sum_11 : decode cX2_sum 11 = .ok (.istore 8, 2) := by decide +kernel
theorem dX2_sum_13 : decode cX2_sum 13 = .ok (.iload 8, 2) := by decide +kernel
theorem dX2_sum_15 : decode cX2_sum 15 = .ok (.iload_n 2, 1) := by decide +kernel
theorem dX2_sum_16 : decode cX2_sum 16 = .ok (.if_icmp .ge 80, 3) := by decide +kernel
theorem dX2_sum_19 : decode cX2_sum 19 = .ok (.iload 8, 2) := by decide +kernel
theorem dX2_sum_21 : decode cX2_sum 21 = .ok (.aload_n 0, 1) := by decide +kernel
theorem dX2_sum_22 : decode cX2_sum 22 = .ok (.getfield 28, 3) := by decide +kernel
theorem dX2_sum_25 : decode cX2_sum 25 = .ok (.if_icmp .ge 71, 3) := by decide +kernel
theorem dX2_sum_28 : decode cX2_sum 28 = .ok (.aload_n 3, 1) := by decide +kernel
theorem dX2_sum_29 : decode cX2_sum 29 = .ok (.aload_n 0, 1) := by decide +kernel
theorem dX2_sum_30 : decode cX2_sum 30 = .ok (.iload 8, 2) := by decide +kernel
theorem dX2_sum_32 : decode cX2_sum 32 = .ok (.invokevirtual 45, 3) := by decide +kernel
theorem dX2_sum_35 : decode cX2_sum 35 = .ok (.invokevirtual 49, 3) := by decide +kernel
theorem dX2_sum_38 : decode cX2_sum 38 = .ok (.i2l, 1) := by decide +kernel
theorem dX2_sum_39 : decode cX2_sum 39 = .ok (.lstore 9, 2) := by decide +kernel
theorem dX2_sum_41 : decode cX2_sum 41 = .ok (.aload_n 0, 1) := by decide +kernel
theorem dX2_sum_42 : decode cX2_sum 42 = .ok (.iload 8, 2) := by decide +kernel
theorem dX2_sum_44 : decode cX2_sum 44 = .ok (.invokevirtual 54, 3) := by decide +kernel
theorem dX2_sum_47 : decode cX2_sum 47 = .ok (.bipush 42, 2) := by decide +kernel
theorem dX2_sum_49 : decode cX2_sum 49 = .ok (.if_icmp .ne 13, 3) := by decide +kernel
theorem dX2_sum_52 : decode cX2_sum 52 = .ok (.lload 6, 2) := by decide +kernel
theorem dX2_sum_54 : decode cX2_sum 54 = .ok (.lload 9, 2) := by decide +kernel
theorem dX2_sum_56 : decode cX2_sum 56 = .ok (.lmul, 1) := by decide +kernel
theorem dX2_sum_57 : decode cX2_sum 57 = .ok (.lstore 6, 2) := by decide +kernel
theorem dX2_sum_59 : decode cX2_sum 59 = .ok (.goto 31, 3) := by decide +kernel
theorem dX2_sum_62 : decode cX2_sum 62 = .ok (.lload 4, 2) := by decide +kernel
theorem dX2_sum_64 : decode cX2_sum 64 = .ok (.lload 6, 2) := by decide +kernel
theorem dX2_sum_66 : decode cX2_sum 66 = .ok (.ladd, 1) := by decide +kernel
theorem dX2_sum_67 : decode cX2_sum 67 = .ok (.lstore 4, 2) := by decide +kernel
theorem dX2_sum_69 : decode cX2_sum 69 = .ok (.aload_n 0, 1) := by decide +kernel
theorem dX2_sum_70 : decode cX2_sum 70 = .ok (.iload 8, 2) := by decide +kernel
theorem dX2_sum_72 : decode cX2_sum 72 = .ok (.invokevirtual 54, 3) := by decide +kernel
theorem dX2_sum_75 : decode cX2_sum 75 = .ok (.bipush 45, 2) := by decide +kernel
theorem dX2_sum_77 : decode cX2_sum 77 = .ok (.if_icmp .ne 9, 3) := by decide +kernel
theorem dX2_sum_80 : decode cX2_sum 80 = .ok (.lload 9, 2) := by decide +kernel
theorem dX2_sum_82 : decode cX2_sum 82 = .ok (.lneg, 1) := by decide +kernel
theorem dX2_sum_83 : decode cX2_sum 83 = .ok (.goto 5, 3) := by decide +kernel
theorem dX2_sum_86 : decode cX2_sum 86 = .ok (.lload 9, 2) := by decide +kernel
theorem dX2_sum_88 : decode cX2_sum 88 = .ok (.lstore 6, 2) := by decide +kernel
theorem dX2_sum_90 : decode cX2_sum 90 = .ok (.iinc 8 1, 3) := by decide +kernel
theorem dX2_sum_93 : decode cX2_sum 93 = .ok (.goto (-80), 3) := by decide +kernel
theorem dX2_sum_96 : decode cX2_sum 96 = .ok (.lload 4, 2) := by decide +kernel
theorem dX2_sum_98 : decode cX2_sum 98 = .ok (.lload 6, 2) := by decide +kernel
theorem dX2_sum_100 : decode cX2_sum 100 = .ok (.ladd, 1) := by decide +kernel
theorem dX2_sum_101 : decode cX2_sum 101 = .ok (.lreturn, 1) := by decide +kernel
theorem dX2_holds_0 : decode cX2_holds 0 = .ok (.aload_n 0, 1) := by decide +kernel
theorem dX2_holds_1 : decode cX2_holds 1 = .ok (.iload_n 1, 1) := by decide +kernel
theorem dX2_holds_2 : decode cX2_holds 2 = .ok (.bipush 6, 2) := by decide +kernel
theorem dX2_holds_4 : decode cX2_holds 4 = .ok (.invokevirtual 31, 3) := by decide +kernel
theorem dX2_holds_7 : decode cX2_holds 7 = .ok (.istore_n 3, 1) := by decide +kernel
theorem dX2_holds_8 : decode cX2_holds 8 = .ok (.aload_n 0, 1) := by decide +kernel
theorem dX2_holds_9 : decode cX2_holds 9 = .ok (.aload_n 0, 1) := by decide +kernel
theorem dX2_holds_10 : decode cX2_holds 10 = .ok (.iload_n 1, 1) := by decide +kernel
theorem dX2_holds_11 : decode cX2_holds 11 = .ok (.iconst 5, 1) := by decide +kernel
theorem dX2_holds_12 : decode cX2_holds 12 = .ok (.invokevirtual 31, 3) := by decide +kernel
theorem dX2_holds_15 : decode cX2_holds 15 = .ok (.iload_n 3, 1) := by decide +kernel
theorem dX2_holds_16 : decode cX2_holds 16 = .ok (.aload_n 2, 1) := by decide +kernel
theorem dX2_holds_17 : decode cX2_holds 17 = .ok (.invokevirtual 57, 3) := by decide +kernel
theorem dX2_holds_20 : decode cX2_holds 20 = .ok (.lstore 4, 2) := by decide +kernel
theorem dX2_holds_22 : decode cX2_holds 22 = .ok (.aload_n 0, 1) := by decide +kernel
theorem dX2_holds_23 : decode cX2_holds 23 = .ok (.iload_n 3, 1) := by decide +kernel
theorem dX2_holds_24 : decode cX2_holds 24 = .ok (.aload_n 0, 1) := by decide +kernel
theorem dX2_holds_25 : decode cX2_holds 25 = .ok (.iload_n 1, 1) := by decide +kernel
theorem dX2_holds_26 : decode cX2_holds 26 = .ok (.bipush 7, 2) := by decide +kernel
theorem dX2_holds_28 : decode cX2_holds 28 = .ok (.invokevirtual 31, 3) := by decide +kernel
theorem dX2_holds_31 : decode cX2_holds 31 = .ok (.aload_n 2, 1) := by decide +kernel
theorem dX2_holds_32 : decode cX2_holds 32 = .ok (.invokevirtual 57, 3) := by decide +kernel
theorem dX2_holds_35 : decode cX2_holds 35 = .ok (.lstore 6, 2) := by decide +kernel
theorem dX2_holds_37 : decode cX2_holds 37 = .ok (.lload 4, 2) := by decide +kernel
theorem dX2_holds_39 : decode cX2_holds 39 = .ok (.lload 6, 2) := by decide +kernel
theorem dX2_holds_41 : decode cX2_holds 41 = .ok (.lcmp, 1) := by decide +kernel
theorem dX2_holds_42 : decode cX2_holds 42 = .ok (.ifCond .ge 7, 3) := by decide +kernel
theorem dX2_holds_45 : decode cX2_holds 45 = .ok (.iconst 1, 1) := by decide +kernel
theorem dX2_holds_46 : decode cX2_holds 46 = .ok (.goto 16, 3) := by decide +kernel
theorem dX2_holds_49 : decode cX2_holds 49 = .ok (.lload 4, 2) := by decide +kernel
theorem dX2_holds_51 : decode cX2_holds 51 = .ok (.lload 6, 2) := by decide +kernel
theorem dX2_holds_53 : decode cX2_holds 53 = .ok (.lcmp, 1) := by decide +kernel
theorem dX2_holds_54 : decode cX2_holds 54 = .ok (.ifCond .ne 7, 3) := by decide +kernel
theorem dX2_holds_57 : decode cX2_holds 57 = .ok (.iconst 2, 1) := by decide +kernel
theorem dX2_holds_58 : decode cX2_holds 58 = .ok (.goto 4, 3) := by decide +kernel
theorem dX2_holds_61 : decode cX2_holds 61 = .ok (.iconst 4, 1) := by decide +kernel
theorem dX2_holds_62 : decode cX2_holds 62 = .ok (.istore 8, 2) := by decide +kernel
theorem dX2_holds_64 : decode cX2_holds 64 = .ok (.aload_n 0, 1) := by decide +kernel
theorem dX2_holds_65 : decode cX2_holds 65 = .ok (.iload_n 1, 1) := by decide +kernel
theorem dX2_holds_66 : decode cX2_holds 66 = .ok (.bipush 8, 2) := by decide +kernel
theorem dX2_holds_68 : decode cX2_holds 68 = .ok (.invokevirtual 31, 3) := by decide +kernel
theorem dX2_holds_71 : decode cX2_holds 71 = .ok (.istore 9, 2) := by decide +kernel
theorem dX2_holds_73 : decode cX2_holds 73 = .ok (.iload 9, 2) := by decide +kernel
theorem dX2_holds_75 : decode cX2_holds 75 = .ok (.ifCond .le 15, 3) := by decide +kernel
theorem dX2_holds_78 : decode cX2_holds 78 = .ok (.iload 9, 2) := by decide +kernel
theorem dX2_holds_80 : decode cX2_holds 80 = .ok (.iload 8, 2) := by decide +kernel
theorem dX2_holds_82 : decode cX2_holds 82 = .ok (.iand, 1) := by decide +kernel
theorem dX2_holds_83 : decode cX2_holds 83 = .ok (.ifCond .eq 7, 3) := by decide +kernel
theorem dX2_holds_86 : decode cX2_holds 86 = .ok (.iconst 1, 1) := by decide +kernel
theorem dX2_holds_87 : decode cX2_holds 87 = .ok (.goto 4, 3) := by decide +kernel
theorem dX2_holds_90 : decode cX2_holds 90 = .ok (.iconst 0, 1) := by decide +kernel
theorem dX2_holds_91 : decode cX2_holds 91 = .ok (.ireturn, 1) := by decide +kernel
theorem dX2_lapsed_0 : decode cX2_lapsed 0 = .ok (.aload_n 0, 1) := by decide +kernel
theorem dX2_lapsed_1 : decode cX2_lapsed 1 = .ok (.iload_n 1, 1) := by decide +kernel
theorem dX2_lapsed_2 : decode cX2_lapsed 2 = .ok (.bipush 11, 2) := by decide +kernel
theorem dX2_lapsed_4 : decode cX2_lapsed 4 = .ok (.invokevirtual 31, 3) := by decide +kernel
theorem dX2_lapsed_7 : decode cX2_lapsed 7 = .ok (.istore_n 3, 1) := by decide +kernel
theorem dX2_lapsed_8 : decode cX2_lapsed 8 = .ok (.iconst 0, 1) := by decide +kernel
theorem dX2_lapsed_9 : decode cX2_lapsed 9 = .ok (.istore 4, 2) := by decide +kernel
theorem dX2_lapsed_11 : decode cX2_lapsed 11 = .ok (.iload 4, 2) := by decide +kernel
theorem dX2_lapsed_13 : decode cX2_lapsed 13 = .ok (.bipush 40, 2) := by decide +kernel
theorem dX2_lapsed_15 : decode cX2_lapsed 15 = .ok (.if_icmp .ge 32, 3) := by decide +kernel
theorem dX2_lapsed_18 : decode cX2_lapsed 18 = .ok (.iload_n 3, 1) := by decide +kernel
theorem dX2_lapsed_19 : decode cX2_lapsed 19 = .ok (.ifCond .lt 28, 3) := by decide +kernel
theorem dX2_lapsed_22 : decode cX2_lapsed 22 = .ok (.aload_n 0, 1) := by decide +kernel
theorem dX2_lapsed_23 : decode cX2_lapsed 23 = .ok (.iload_n 3, 1) := by decide +kernel
theorem dX2_lapsed_24 : decode cX2_lapsed 24 = .ok (.aload_n 2, 1) := by decide +kernel
theorem dX2_lapsed_25 : decode cX2_lapsed 25 = .ok (.invokevirtual 61, 3) := by decide +kernel
theorem dX2_lapsed_28 : decode cX2_lapsed 28 = .ok (.ifCond .eq 5, 3) := by decide +kernel
theorem dX2_lapsed_31 : decode cX2_lapsed 31 = .ok (.iconst 1, 1) := by decide +kernel
theorem dX2_lapsed_32 : decode cX2_lapsed 32 = .ok (.ireturn, 1) := by decide +kernel
theorem dX2_lapsed_33 : decode cX2_lapsed 33 = .ok (.aload_n 0, 1) := by decide +kernel
theorem dX2_lapsed_34 : decode cX2_lapsed 34 = .ok (.iload_n 3, 1) := by decide +kernel
theorem dX2_lapsed_35 : decode cX2_lapsed 35 = .ok (.bipush 11, 2) := by decide +kernel
theorem dX2_lapsed_37 : decode cX2_lapsed 37 = .ok (.invokevirtual 31, 3) := by decide +kernel
theorem dX2_lapsed_40 : decode cX2_lapsed 40 = .ok (.istore_n 3, 1) := by decide +kernel
theorem dX2_lapsed_41 : decode cX2_lapsed 41 = .ok (.iinc 4 1, 3) := by decide +kernel
theorem dX2_lapsed_44 : decode cX2_lapsed 44 = .ok (.goto (-33), 3) := by decide +kernel
theorem dX2_lapsed_47 : decode cX2_lapsed 47 = .ok (.iconst 0, 1) := by decide +kernel
theorem dX2_lapsed_48 : decode cX2_lapsed 48 = .ok (.ireturn, 1) := by decide +kernel
theorem dX2_passed_0 : decode cX2_passed 0 = .ok (.aload_n 0, 1) := by decide +kernel
theorem dX2_passed_1 : decode cX2_passed 1 = .ok (.iload_n 1, 1) := by decide +kernel
theorem dX2_passed_2 : decode cX2_passed 2 = .ok (.iconst 0, 1) := by decide +kernel
theorem dX2_passed_3 : decode cX2_passed 3 = .ok (.invokevirtual 31, 3) := by decide +kernel
theorem dX2_passed_6 : decode cX2_passed 6 = .ok (.istore 4, 2) := by decide +kernel
theorem dX2_passed_8 : decode cX2_passed 8 = .ok (.iload 4, 2) := by decide +kernel
theorem dX2_passed_10 : decode cX2_passed 10 = .ok (.iconst 2, 1) := by decide +kernel
theorem dX2_passed_11 : decode cX2_passed 11 = .ok (.if_icmp .ne 6, 3) := by decide +kernel
theorem dX2_passed_14 : decode cX2_passed 14 = .ok (.iload_n 2, 1) := by decide +kernel
theorem dX2_passed_15 : decode cX2_passed 15 = .ok (.ineg, 1) := by decide +kernel
theorem dX2_passed_16 : decode cX2_passed 16 = .ok (.ireturn, 1) := by decide +kernel
theorem dX2_passed_17 : decode cX2_passed 17 = .ok (.iload 4, 2) := by decide +kernel
theorem dX2_passed_19 : decode cX2_passed 19 = .ok (.bipush 9, 2) := by decide +kernel
theorem dX2_passed_21 : decode cX2_passed 21 = .ok (.if_icmp .eq 5, 3) := by decide +kernel
theorem dX2_passed_24 : decode cX2_passed 24 = .ok (.iload_n 2, 1) := by decide +kernel
theorem dX2_passed_25 : decode cX2_passed 25 = .ok (.ireturn, 1) := by decide +kernel
theorem dX2_passed_26 : decode cX2_passed 26 = .ok (.iload_n 2, 1) := by decide +kernel
theorem dX2_passed_27 : decode cX2_passed 27 = .ok (.i2l, 1) := by decide +kernel
theorem dX2_passed_28 : decode cX2_passed 28 = .ok (.aload_n 0, 1) := by decide +kernel
theorem dX2_passed_29 : decode cX2_passed 29 = .ok (.aload_n 0, 1) := by decide +kernel
theorem dX2_passed_30 : decode cX2_passed 30 = .ok (.iload_n 1, 1) := by decide +kernel
theorem dX2_passed_31 : decode cX2_passed 31 = .ok (.iconst 5, 1) := by decide +kernel
theorem dX2_passed_32 : decode cX2_passed 32 = .ok (.invokevirtual 31, 3) := by decide +kernel
theorem dX2_passed_35 : decode cX2_passed 35 = .ok (.aload_n 0, 1) := by decide +kernel
theorem dX2_passed_36 : decode cX2_passed 36 = .ok (.iload_n 1, 1) := by decide +kernel
theorem dX2_passed_37 : decode cX2_passed 37 = .ok (.bipush 6, 2) := by decide +kernel
theorem dX2_passed_39 : decode cX2_passed 39 = .ok (.invokevirtual 31, 3) := by decide +kernel
theorem dX2_passed_42 : decode cX2_passed 42 = .ok (.aload_n 3, 1) := by decide +kernel
theorem dX2_passed_43 : decode cX2_passed 43 = .ok (.invokevirtual 57, 3) := by decide +kernel
theorem dX2_passed_46 : decode cX2_passed 46 = .ok (.lmul, 1) := by decide +kernel
theorem dX2_passed_47 : decode cX2_passed 47 = .ok (.lstore 5, 2) := by decide +kernel
theorem dX2_passed_49 : decode cX2_passed 49 = .ok (.ldc2_w 65, 3) := by decide +kernel
theorem dX2_passed_52 : decode cX2_passed 52 = .ok (.ldc2_w 67, 3) := by decide +kernel
theorem dX2_passed_55 : decode cX2_passed 55 = .ok (.lload 5, 2) := by decide +kernel
theorem dX2_passed_57 : decode cX2_passed 57 = .ok (.invokestatic 69, 3) := by decide +kernel
theorem dX2_passed_60 : decode cX2_passed 60 = .ok (.invokestatic 72, 3) := by decide +kernel
theorem dX2_passed_63 : decode cX2_passed 63 = .ok (.l2i, 1) := by decide +kernel
theorem dX2_passed_64 : decode cX2_passed 64 = .ok (.ireturn, 1) := by decide +kernel
theorem dX2_held_0 : decode cX2_held 0 = .ok (.aload_n 0, 1) := by decide +kernel
theorem dX2_held_1 : decode cX2_held 1 = .ok (.iload_n 1, 1) := by decide +kernel
theorem dX2_held_2 : decode cX2_held 2 = .ok (.bipush 9, 2) := by decide +kernel
theorem dX2_held_4 : decode cX2_held 4 = .ok (.invokevirtual 31, 3) := by decide +kernel
theorem dX2_held_7 : decode cX2_held 7 = .ok (.istore_n 3, 1) := by decide +kernel
theorem dX2_held_8 : decode cX2_held 8 = .ok (.iload_n 3, 1) := by decide +kernel
theorem dX2_held_9 : decode cX2_held 9 = .ok (.iconst (-1), 1) := by decide +kernel
theorem dX2_held_10 : decode cX2_held 10 = .ok (.if_icmp .ne 7, 3) := by decide +kernel
theorem dX2_held_13 : decode cX2_held 13 = .ok (.iload_n 2, 1) := by decide +kernel
theorem dX2_held_14 : decode cX2_held 14 = .ok (.goto 13, 3) := by decide +kernel
theorem dX2_held_17 : decode cX2_held 17 = .ok (.iload_n 3, 1) := by decide +kernel
theorem dX2_held_18 : decode cX2_held 18 = .ok (.ineg, 1) := by decide +kernel
theorem dX2_held_19 : decode cX2_held 19 = .ok (.iload_n 3, 1) := by decide +kernel
theorem dX2_held_20 : decode cX2_held 20 = .ok (.iload_n 2, 1) := by decide +kernel
theorem dX2_held_21 : decode cX2_held 21 = .ok (.invokestatic 42, 3) := by decide +kernel
theorem dX2_held_24 : decode cX2_held 24 = .ok (.invokestatic 9, 3) := by decide +kernel
theorem dX2_held_27 : decode cX2_held 27 = .ok (.ireturn, 1) := by decide +kernel
theorem dX2_nextDeed_0 : decode cX2_nextDeed 0 = .ok (.aload_n 0, 1) := by decide +kernel
theorem dX2_nextDeed_1 : decode cX2_nextDeed 1 = .ok (.iload_n 1, 1) := by decide +kernel
theorem dX2_nextDeed_2 : decode cX2_nextDeed 2 = .ok (.iconst 0, 1) := by decide +kernel
theorem dX2_nextDeed_3 : decode cX2_nextDeed 3 = .ok (.invokevirtual 31, 3) := by decide +kernel
theorem dX2_nextDeed_6 : decode cX2_nextDeed 6 = .ok (.iconst 5, 1) := by decide +kernel
theorem dX2_nextDeed_7 : decode cX2_nextDeed 7 = .ok (.if_icmp .ne 20, 3) := by decide +kernel
theorem dX2_nextDeed_10 : decode cX2_nextDeed 10 = .ok (.aload_n 2, 1) := by decide +kernel
theorem dX2_nextDeed_11 : decode cX2_nextDeed 11 = .ok (.getfield 74, 3) := by decide +kernel
theorem dX2_nextDeed_14 : decode cX2_nextDeed 14 = .ok (.aload_n 0, 1) := by decide +kernel
theorem dX2_nextDeed_15 : decode cX2_nextDeed 15 = .ok (.iload_n 1, 1) := by decide +kernel
theorem dX2_nextDeed_16 : decode cX2_nextDeed 16 = .ok (.iconst 2, 1) := by decide +kernel
theorem dX2_nextDeed_17 : decode cX2_nextDeed 17 = .ok (.invokevirtual 31, 3) := by decide +kernel
theorem dX2_nextDeed_20 : decode cX2_nextDeed 20 = .ok (.if_icmp .lt 7, 3) := by decide +kernel
theorem dX2_nextDeed_23 : decode cX2_nextDeed 23 = .ok (.iconst 1, 1) := by decide +kernel
theorem dX2_nextDeed_24 : decode cX2_nextDeed 24 = .ok (.goto 4, 3) := by decide +kernel
theorem dX2_nextDeed_27 : decode cX2_nextDeed 27 = .ok (.iconst 0, 1) := by decide +kernel
theorem dX2_nextDeed_28 : decode cX2_nextDeed 28 = .ok (.istore_n 3, 1) := by decide +kernel
theorem dX2_nextDeed_29 : decode cX2_nextDeed 29 = .ok (.aload_n 0, 1) := by decide +kernel
theorem dX2_nextDeed_30 : decode cX2_nextDeed 30 = .ok (.iload_n 1, 1) := by decide +kernel
theorem dX2_nextDeed_31 : decode cX2_nextDeed 31 = .ok (.iload_n 3, 1) := by decide +kernel
theorem dX2_nextDeed_32 : decode cX2_nextDeed 32 = .ok (.ifCond .eq 7, 3) := by decide +kernel
theorem dX2_nextDeed_35 : decode cX2_nextDeed 35 = .ok (.iconst 4, 1) := by decide +kernel
theorem dX2_nextDeed_36 : decode cX2_nextDeed 36 = .ok (.goto 4, 3) := by decide +kernel
theorem dX2_nextDeed_39 : decode cX2_nextDeed 39 = .ok (.iconst 3, 1) := by decide +kernel
theorem dX2_nextDeed_40 : decode cX2_nextDeed 40 = .ok (.invokevirtual 31, 3) := by decide +kernel
theorem dX2_nextDeed_43 : decode cX2_nextDeed 43 = .ok (.ireturn, 1) := by decide +kernel
theorem dX2_hasChoices_0 : decode cX2_hasChoices 0 = .ok (.iconst 0, 1) := by decide +kernel
theorem dX2_hasChoices_1 : decode cX2_hasChoices 1 = .ok (.istore_n 1, 1) := by decide +kernel
theorem dX2_hasChoices_2 : decode cX2_hasChoices 2 = .ok (.iload_n 1, 1) := by decide +kernel
theorem dX2_hasChoices_3 : decode cX2_hasChoices 3 = .ok (.aload_n 0, 1) := by decide +kernel
theorem dX2_hasChoices_4 : decode cX2_hasChoices 4 = .ok (.getfield 24, 3) := by decide +kernel
theorem dX2_hasChoices_7 : decode cX2_hasChoices 7 = .ok (.if_icmp .ge 29, 3) := by decide +kernel
theorem dX2_hasChoices_10 : decode cX2_hasChoices 10 = .ok (.aload_n 0, 1) := by decide +kernel
theorem dX2_hasChoices_11 : decode cX2_hasChoices 11 = .ok (.iload_n 1, 1) := by decide +kernel
theorem dX2_hasChoices_12 : decode cX2_hasChoices 12 = .ok (.iconst 0, 1) := by decide +kernel
theorem dX2_hasChoices_13 : decode cX2_hasChoices 13 = .ok (.invokevirtual 31, 3) := by decide +kernel
theorem dX2_hasChoices_16 : decode cX2_hasChoices 16 = .ok (.istore_n 2, 1) := by decide +kernel
theorem dX2_hasChoices_17 : decode cX2_hasChoices 17 = .ok (.iload_n 2, 1) := by decide +kernel
theorem dX2_hasChoices_18 : decode cX2_hasChoices 18 = .ok (.iconst 4, 1) := by decide +kernel
theorem dX2_hasChoices_19 : decode cX2_hasChoices 19 = .ok (.if_icmp .eq 9, 3) := by decide +kernel
theorem dX2_hasChoices_22 : decode cX2_hasChoices 22 = .ok (.iload_n 2, 1) := by decide +kernel
theorem dX2_hasChoices_23 : decode cX2_hasChoices 23 = .ok (.bipush 7, 2) := by decide +kernel
theorem dX2_hasChoices_25 : decode cX2_hasChoices 25 = .ok (.if_icmp .ne 5, 3) := by decide +kernel
theorem dX2_hasChoices_28 : decode cX2_hasChoices 28 = .ok (.iconst 1, 1) := by decide +kernel
theorem dX2_hasChoices_29 : decode cX2_hasChoices 29 = .ok (.ireturn, 1) := by decide +kernel
theorem dX2_hasChoices_30 : decode cX2_hasChoices 30 = .ok (.iinc 1 1, 3) := by decide +kernel
theorem dX2_hasChoices_33 : decode cX2_hasChoices 33 = .ok (.goto (-31), 3) := by decide +kernel
theorem dX2_hasChoices_36 : decode cX2_hasChoices 36 = .ok (.iconst 0, 1) := by decide +kernel
theorem dX2_hasChoices_37 : decode cX2_hasChoices 37 = .ok (.ireturn, 1) := by decide +kernel
theorem dX2_copyToSize_0 : decode cX2_copyToSize 0 = .ok (.new 16, 3) := by decide +kernel
theorem dX2_copyToSize_3 : decode cX2_copyToSize 3 = .ok (.dup, 1) := by decide +kernel
theorem dX2_copyToSize_4 : decode cX2_copyToSize 4 = .ok (.aload_n 0, 1) := by decide +kernel
theorem dX2_copyToSize_5 : decode cX2_copyToSize 5 = .ok (.getfield 24, 3) := by decide +kernel
theorem dX2_copyToSize_8 : decode cX2_copyToSize 8 = .ok (.aload_n 0, 1) := by decide +kernel
theorem dX2_copyToSize_9 : decode cX2_copyToSize 9 = .ok (.getfield 28, 3) := by decide +kernel
theorem dX2_copyToSize_12 : decode cX2_copyToSize 12 = .ok (.invokespecial 77, 3) := by decide +kernel
theorem dX2_copyToSize_15 : decode cX2_copyToSize 15 = .ok (.astore_n 1, 1) := by decide +kernel
theorem dX2_copyToSize_16 : decode cX2_copyToSize 16 = .ok (.aload_n 1, 1) := by decide +kernel
theorem dX2_copyToSize_17 : decode cX2_copyToSize 17 = .ok (.aload_n 0, 1) := by decide +kernel
theorem dX2_copyToSize_18 : decode cX2_copyToSize 18 = .ok (.getfield 24, 3) := by decide +kernel
theorem dX2_copyToSize_21 : decode cX2_copyToSize 21 = .ok (.putfield 24, 3) := by decide +kernel
theorem dX2_copyToSize_24 : decode cX2_copyToSize 24 = .ok (.aload_n 1, 1) := by decide +kernel
theorem dX2_copyToSize_25 : decode cX2_copyToSize 25 = .ok (.aload_n 0, 1) := by decide +kernel
theorem dX2_copyToSize_26 : decode cX2_copyToSize 26 = .ok (.getfield 28, 3) := by decide +kernel
theorem dX2_copyToSize_29 : decode cX2_copyToSize 29 = .ok (.putfield 28, 3) := by decide +kernel
theorem dX2_copyToSize_32 : decode cX2_copyToSize 32 = .ok (.iconst 0, 1) := by decide +kernel
theorem dX2_copyToSize_33 : decode cX2_copyToSize 33 = .ok (.istore_n 2, 1) := by decide +kernel
theorem dX2_copyToSize_34 : decode cX2_copyToSize 34 = .ok (.iload_n 2, 1) := by decide +kernel
theorem dX2_copyToSize_35 : decode cX2_copyToSize 35 = .ok (.aload_n 1, 1) := by decide +kernel
theorem dX2_copyToSize_36 : decode cX2_copyToSize 36 = .ok (.getfield 15, 3) := by decide +kernel
theorem dX2_copyToSize_39 : decode cX2_copyToSize 39 = .ok (.arraylength, 1) := by decide +kernel
theorem dX2_copyToSize_40 : decode cX2_copyToSize 40 = .ok (.if_icmp .ge 30, 3) := by decide +kernel
theorem dX2_copyToSize_43 : decode cX2_copyToSize 43 = .ok (.iload_n 2, 1) := by decide +kernel
theorem dX2_copyToSize_44 : decode cX2_copyToSize 44 = .ok (.aload_n 0, 1) := by decide +kernel
theorem dX2_copyToSize_45 : decode cX2_copyToSize 45 = .ok (.getfield 15, 3) := by decide +kernel
theorem dX2_copyToSize_48 : decode cX2_copyToSize 48 = .ok (.arraylength, 1) := by decide +kernel
theorem dX2_copyToSize_49 : decode cX2_copyToSize 49 = .ok (.if_icmp .ge 21, 3) := by decide +kernel
theorem dX2_copyToSize_52 : decode cX2_copyToSize 52 = .ok (.aload_n 1, 1) := by decide +kernel
theorem dX2_copyToSize_53 : decode cX2_copyToSize 53 = .ok (.getfield 15, 3) := by decide +kernel
theorem dX2_copyToSize_56 : decode cX2_copyToSize 56 = .ok (.iload_n 2, 1) := by decide +kernel
theorem dX2_copyToSize_57 : decode cX2_copyToSize 57 = .ok (.aload_n 0, 1) := by decide +kernel
theorem dX2_copyToSize_58 : decode cX2_copyToSize 58 = .ok (.getfield 15, 3) := by decide +kernel
theorem dX2_copyToSize_61 : decode cX2_copyToSize 61 = .ok (.iload_n 2, 1) := by decide +kernel
theorem dX2_copyToSize_62 : decode cX2_copyToSize 62 = .ok (.iaload, 1) := by decide +kernel
theorem dX2_copyToSize_63 : decode cX2_copyToSize 63 = .ok (.iastore, 1) := by decide +kernel
theorem dX2_copyToSize_64 : decode cX2_copyToSize 64 = .ok (.iinc 2 1, 3) := by decide +kernel
theorem dX2_copyToSize_67 : decode cX2_copyToSize 67 = .ok (.goto (-33), 3) := by decide +kernel
theorem dX2_copyToSize_70 : decode cX2_copyToSize 70 = .ok (.iconst 0, 1) := by decide +kernel
theorem dX2_copyToSize_71 : decode cX2_copyToSize 71 = .ok (.istore_n 2, 1) := by decide +kernel
theorem dX2_copyToSize_72 : decode cX2_copyToSize 72 = .ok (.iload_n 2, 1) := by decide +kernel
theorem dX2_copyToSize_73 : decode cX2_copyToSize 73 = .ok (.aload_n 1, 1) := by decide +kernel
theorem dX2_copyToSize_74 : decode cX2_copyToSize 74 = .ok (.getfield 21, 3) := by decide +kernel
theorem dX2_copyToSize_77 : decode cX2_copyToSize 77 = .ok (.arraylength, 1) := by decide +kernel
theorem dX2_copyToSize_78 : decode cX2_copyToSize 78 = .ok (.if_icmp .ge 30, 3) := by decide +kernel
theorem dX2_copyToSize_81 : decode cX2_copyToSize 81 = .ok (.iload_n 2, 1) := by decide +kernel
theorem dX2_copyToSize_82 : decode cX2_copyToSize 82 = .ok (.aload_n 0, 1) := by decide +kernel
theorem dX2_copyToSize_83 : decode cX2_copyToSize 83 = .ok (.getfield 21, 3) := by decide +kernel
theorem dX2_copyToSize_86 : decode cX2_copyToSize 86 = .ok (.arraylength, 1) := by decide +kernel
theorem dX2_copyToSize_87 : decode cX2_copyToSize 87 = .ok (.if_icmp .ge 21, 3) := by decide +kernel
theorem dX2_copyToSize_90 : decode cX2_copyToSize 90 = .ok (.aload_n 1, 1) := by decide +kernel
theorem dX2_copyToSize_91 : decode cX2_copyToSize 91 = .ok (.getfield 21, 3) := by decide +kernel
theorem dX2_copyToSize_94 : decode cX2_copyToSize 94 = .ok (.iload_n 2, 1) := by decide +kernel
theorem dX2_copyToSize_95 : decode cX2_copyToSize 95 = .ok (.aload_n 0, 1) := by decide +kernel
theorem dX2_copyToSize_96 : decode cX2_copyToSize 96 = .ok (.getfield 21, 3) := by decide +kernel
theorem dX2_copyToSize_99 : decode cX2_copyToSize 99 = .ok (.iload_n 2, 1) := by decide +kernel
theorem dX2_copyToSize_100 : decode cX2_copyToSize 100 = .ok (.iaload, 1) := by decide +kernel
theorem dX2_copyToSize_101 : decode cX2_copyToSize 101 = .ok (.iastore, 1) := by decide +kernel
theorem dX2_copyToSize_102 : decode cX2_copyToSize 102 = .ok (.iinc 2 1, 3) := by decide +kernel
theorem dX2_copyToSize_105 : decode cX2_copyToSize 105 = .ok (.goto (-33), 3) := by decide +kernel
theorem dX2_copyToSize_108 : decode cX2_copyToSize 108 = .ok (.aload_n 1, 1) := by decide +kernel
theorem dX2_copyToSize_109 : decode cX2_copyToSize 109 = .ok (.areturn, 1) := by decide +kernel
theorem dX3_init_0 : decode cX3_init 0 = .ok (.aload_n 0, 1) := by decide +kernel
theorem dX3_init_1 : decode cX3_init 1 = .ok (.invokespecial 3, 3) := by decide +kernel
theorem dX3_init_4 : decode cX3_init 4 = .ok (.aload_n 0, 1) := by decide +kernel
theorem dX3_init_5 : decode cX3_init 5 = .ok (.new 9, 3) := by decide +kernel
theorem dX3_init_8 : decode cX3_init 8 = .ok (.dup, 1) := by decide +kernel
theorem dX3_init_9 : decode cX3_init 9 = .ok (.bipush 40, 2) := by decide +kernel
theorem dX3_init_11 : decode cX3_init 11 = .ok (.bipush 40, 2) := by decide +kernel
theorem dX3_init_13 : decode cX3_init 13 = .ok (.invokespecial 11, 3) := by decide +kernel
theorem dX3_init_16 : decode cX3_init 16 = .ok (.putfield 14, 3) := by decide +kernel
theorem dX3_init_19 : decode cX3_init 19 = .ok (.aload_n 0, 1) := by decide +kernel
theorem dX3_init_20 : decode cX3_init 20 = .ok (.bipush 40, 2) := by decide +kernel
theorem dX3_init_22 : decode cX3_init 22 = .ok (.newarray .int, 2) := by decide +kernel
theorem dX3_init_24 : decode cX3_init 24 = .ok (.putfield 20, 3) := by decide +kernel
theorem dX3_init_27 : decode cX3_init 27 = .ok (.return_, 1) := by decide +kernel
theorem dX3_shorten_0 : decode cX3_shorten 0 = .ok (.aload_n 0, 1) := by decide +kernel
theorem dX3_shorten_1 : decode cX3_shorten 1 = .ok (.getfield 14, 3) := by decide +kernel
theorem dX3_shorten_4 : decode cX3_shorten 4 = .ok (.invokevirtual 24, 3) := by decide +kernel
theorem dX3_shorten_7 : decode cX3_shorten 7 = .ok (.aload_n 1, 1) := by decide +kernel
theorem dX3_shorten_8 : decode cX3_shorten 8 = .ok (.iconst 0, 1) := by decide +kernel
theorem dX3_shorten_9 : decode cX3_shorten 9 = .ok (.aload_n 0, 1) := by decide +kernel
theorem dX3_shorten_10 : decode cX3_shorten 10 = .ok (.getfield 14, 3) := by decide +kernel
theorem dX3_shorten_13 : decode cX3_shorten 13 = .ok (.iconst (-1), 1) := by decide +kernel
theorem dX3_shorten_14 : decode cX3_shorten 14 = .ok (.invokestatic 27, 3) := by decide +kernel
theorem dX3_shorten_17 : decode cX3_shorten 17 = .ok (.aload_n 0, 1) := by decide +kernel
theorem dX3_shorten_18 : decode cX3_shorten 18 = .ok (.getfield 14, 3) := by decide +kernel
theorem dX3_shorten_21 : decode cX3_shorten 21 = .ok (.invokevirtual 31, 3) := by decide +kernel
theorem dX3_shorten_24 : decode cX3_shorten 24 = .ok (.bipush 40, 2) := by decide +kernel
theorem dX3_shorten_26 : decode cX3_shorten 26 = .ok (.invokestatic 35, 3) := by decide +kernel
theorem dX3_shorten_29 : decode cX3_shorten 29 = .ok (.iconst 1, 1) := by decide +kernel
theorem dX3_shorten_30 : decode cX3_shorten 30 = .ok (.isub, 1) := by decide +kernel
theorem dX3_shorten_31 : decode cX3_shorten 31 = .ok (.istore_n 3, 1) := by decide +kernel
theorem dX3_shorten_32 : decode cX3_shorten 32 = .ok (.iload_n 3, 1) := by decide +kernel
theorem dX3_shorten_33 : decode cX3_shorten 33 = .ok (.ifCond .lt 32, 3) := by decide +kernel
theorem dX3_shorten_36 : decode cX3_shorten 36 = .ok (.aload_n 0, 1) := by decide +kernel
theorem dX3_shorten_37 : decode cX3_shorten 37 = .ok (.iload_n 3, 1) := by decide +kernel
theorem dX3_shorten_38 : decode cX3_shorten 38 = .ok (.iconst 3, 1) := by decide +kernel
theorem dX3_shorten_39 : decode cX3_shorten 39 = .ok (.invokevirtual 41, 3) := by decide +kernel
theorem dX3_shorten_42 : decode cX3_shorten 42 = .ok (.aload_n 0, 1) := by decide +kernel
theorem dX3_shorten_43 : decode cX3_shorten 43 = .ok (.iload_n 3, 1) := by decide +kernel
theorem dX3_shorten_44 : decode cX3_shorten 44 = .ok (.iconst 4, 1) := by decide +kernel
theorem dX3_shorten_45 : decode cX3_shorten 45 = .ok (.invokevirtual 41, 3) := by decide +kernel
theorem dX3_shorten_48 : decode cX3_shorten 48 = .ok (.aload_n 0, 1) := by decide +kernel
theorem dX3_shorten_49 : decode cX3_shorten 49 = .ok (.getfield 20, 3) := by decide +kernel
theorem dX3_shorten_52 : decode cX3_shorten 52 = .ok (.iload_n 3, 1) := by decide +kernel
theorem dX3_shorten_53 : decode cX3_shorten 53 = .ok (.aload_n 0, 1) := by decide +kernel
theorem dX3_shorten_54 : decode cX3_shorten 54 = .ok (.iload_n 3, 1) := by decide +kernel
theorem dX3_shorten_55 : decode cX3_shorten 55 = .ok (.invokevirtual 44, 3) := by decide +kernel
theorem dX3_shorten_58 : decode cX3_shorten 58 = .ok (.iastore, 1) := by decide +kernel
theorem dX3_shorten_59 : decode cX3_shorten 59 = .ok (.iinc 3 (-1), 3) := by decide +kernel
theorem dX3_shorten_62 : decode cX3_shorten 62 = .ok (.goto (-30), 3) := by decide +kernel
theorem dX3_shorten_65 : decode cX3_shorten 65 = .ok (.aload_n 2, 1) := by decide +kernel
theorem dX3_shorten_66 : decode cX3_shorten 66 = .ok (.invokevirtual 24, 3) := by decide +kernel
theorem dX3_shorten_69 : decode cX3_shorten 69 = .ok (.aload_n 0, 1) := by decide +kernel
theorem dX3_shorten_70 : decode cX3_shorten 70 = .ok (.getfield 14, 3) := by decide +kernel
theorem dX3_shorten_73 : decode cX3_shorten 73 = .ok (.aload_n 0, 1) := by decide +kernel
theorem dX3_shorten_74 : decode cX3_shorten 74 = .ok (.getfield 20, 3) := by decide +kernel
theorem dX3_shorten_77 : decode cX3_shorten 77 = .ok (.iconst 0, 1) := by decide +kernel
theorem dX3_shorten_78 : decode cX3_shorten 78 = .ok (.iaload, 1) := by decide +kernel
theorem dX3_shorten_79 : decode cX3_shorten 79 = .ok (.aload_n 2, 1) := by decide +kernel
theorem dX3_shorten_80 : decode cX3_shorten 80 = .ok (.iconst (-1), 1) := by decide +kernel
theorem dX3_shorten_81 : decode cX3_shorten 81 = .ok (.invokestatic 27, 3) := by decide +kernel
theorem dX3_shorten_84 : decode cX3_shorten 84 = .ok (.return_, 1) := by decide +kernel
theorem dX3_sameEitherWay_0 : decode cX3_sameEitherWay 0 = .ok (.aload_n 1, 1) := by decide +kernel
theorem dX3_sameEitherWay_1 : decode cX3_sameEitherWay 1 = .ok (.iconst 0, 1) := by decide +kernel
theorem dX3_sameEitherWay_2 : decode cX3_sameEitherWay 2 = .ok (.aload_n 2, 1) := by decide +kernel
theorem dX3_sameEitherWay_3 : decode cX3_sameEitherWay 3 = .ok (.iconst 0, 1) := by decide +kernel
theorem dX3_sameEitherWay_4 : decode cX3_sameEitherWay 4 = .ok (.iconst 1, 1) := by decide +kernel
theorem dX3_sameEitherWay_5 : decode cX3_sameEitherWay 5 = .ok (.invokestatic 48, 3) := by decide +kernel
theorem dX3_sameEitherWay_8 : decode cX3_sameEitherWay 8 = .ok (.ireturn, 1) := by decide +kernel
theorem dX3_follow_0 : decode cX3_follow 0 = .ok (.aload_n 0, 1) := by decide +kernel
theorem dX3_follow_1 : decode cX3_follow 1 = .ok (.getfield 14, 3) := by decide +kernel
theorem dX3_follow_4 : decode cX3_follow 4 = .ok (.iload_n 1, 1) := by decide +kernel
theorem dX3_follow_5 : decode cX3_follow 5 = .ok (.iload_n 2, 1) := by decide +kernel
theorem dX3_follow_6 : decode cX3_follow 6 = .ok (.invokevirtual 52, 3) := by decide +kernel
theorem dX3_follow_9 : decode cX3_follow 9 = .ok (.istore_n 3, 1) := by decide +kernel
theorem dX3_follow_10 : decode cX3_follow 10 = .ok (.iload_n 3, 1) := by decide +kernel
theorem dX3_follow_11 : decode cX3_follow 11 = .ok (.ifCond .lt 24, 3) := by decide +kernel
theorem dX3_follow_14 : decode cX3_follow 14 = .ok (.iload_n 3, 1) := by decide +kernel
theorem dX3_follow_15 : decode cX3_follow 15 = .ok (.bipush 40, 2) := by decide +kernel
theorem dX3_follow_17 : decode cX3_follow 17 = .ok (.if_icmp .ge 18, 3) := by decide +kernel
theorem dX3_follow_20 : decode cX3_follow 20 = .ok (.aload_n 0, 1) := by decide +kernel
theorem dX3_follow_21 : decode cX3_follow 21 = .ok (.getfield 14, 3) := by decide +kernel
theorem dX3_follow_24 : decode cX3_follow 24 = .ok (.iload_n 1, 1) := by decide +kernel
theorem dX3_follow_25 : decode cX3_follow 25 = .ok (.iload_n 2, 1) := by decide +kernel
theorem dX3_follow_26 : decode cX3_follow 26 = .ok (.aload_n 0, 1) := by decide +kernel
theorem dX3_follow_27 : decode cX3_follow 27 = .ok (.getfield 20, 3) := by decide +kernel
theorem dX3_follow_30 : decode cX3_follow 30 = .ok (.iload_n 3, 1) := by decide +kernel
theorem dX3_follow_31 : decode cX3_follow 31 = .ok (.iaload, 1) := by decide +kernel
theorem dX3_follow_32 : decode cX3_follow 32 = .ok (.invokevirtual 55, 3) := by decide +kernel
theorem dX3_follow_35 : decode cX3_follow 35 = .ok (.return_, 1) := by decide +kernel
theorem dX3_apply_0 : decode cX3_apply 0 = .ok (.aload_n 0, 1) := by decide +kernel
theorem dX3_apply_1 : decode cX3_apply 1 = .ok (.getfield 14, 3) := by decide +kernel
theorem dX3_apply_4 : decode cX3_apply 4 = .ok (.iload_n 1, 1) := by decide +kernel
theorem dX3_apply_5 : decode cX3_apply 5 = .ok (.iconst 3, 1) := by decide +kernel
theorem dX3_apply_6 : decode cX3_apply 6 = .ok (.invokevirtual 52, 3) := by decide +kernel
theorem dX3_apply_9 : decode cX3_apply 9 = .ok (.istore_n 2, 1) := by decide +kernel
theorem dX3_apply_10 : decode cX3_apply 10 = .ok (.aload_n 0, 1) := by decide +kernel
theorem dX3_apply_11 : decode cX3_apply 11 = .ok (.getfield 14, 3) := by decide +kernel
theorem dX3_apply_14 : decode cX3_apply 14 = .ok (.iload_n 1, 1) := by decide +kernel
theorem dX3_apply_15 : decode cX3_apply 15 = .ok (.iconst 4, 1) := by decide +kernel
theorem dX3_apply_16 : decode cX3_apply 16 = .ok (.invokevirtual 52, 3) := by decide +kernel
theorem dX3_apply_19 : decode cX3_apply 19 = .ok (.istore_n 3, 1) := by decide +kernel
theorem dX3_apply_20 : decode cX3_apply 20 = .ok (.aload_n 0, 1) := by decide +kernel
theorem dX3_apply_21 : decode cX3_apply 21 = .ok (.getfield 14, 3) := by decide +kernel
theorem dX3_apply_24 : decode cX3_apply 24 = .ok (.iload_n 2, 1) := by decide +kernel
theorem dX3_apply_25 : decode cX3_apply 25 = .ok (.iconst 0, 1) := by decide +kernel
theorem dX3_apply_26 : decode cX3_apply 26 = .ok (.invokevirtual 52, 3) := by decide +kernel
theorem dX3_apply_29 : decode cX3_apply 29 = .ok (.istore 4, 2) := by decide +kernel
theorem dX3_apply_31 : decode cX3_apply 31 = .ok (.aload_n 0, 1) := by decide +kernel
theorem dX3_apply_32 : decode cX3_apply 32 = .ok (.getfield 14, 3) := by decide +kernel
theorem dX3_apply_35 : decode cX3_apply 35 = .ok (.iload_n 1, 1) := by decide +kernel
theorem dX3_apply_36 : decode cX3_apply 36 = .ok (.iconst 0, 1) := by decide +kernel
theorem dX3_apply_37 : decode cX3_apply 37 = .ok (.invokevirtual 52, 3) := by decide +kernel
theorem dX3_apply_40 : decode cX3_apply 40 = .ok (.tableswitch 184 0 10 #[60, 60, 62, 91, 118, 118, 184, 184, 184, 141, 157], 60) := by decide +kernel
theorem dX3_apply_100 : decode cX3_apply 100 = .ok (.iload_n 1, 1) := by decide +kernel
theorem dX3_apply_101 : decode cX3_apply 101 = .ok (.ireturn, 1) := by decide +kernel
theorem dX3_apply_102 : decode cX3_apply 102 = .ok (.iload 4, 2) := by decide +kernel
theorem dX3_apply_104 : decode cX3_apply 104 = .ok (.ifCond .ne 7, 3) := by decide +kernel
theorem dX3_apply_107 : decode cX3_apply 107 = .ok (.iload_n 2, 1) := by decide +kernel
theorem dX3_apply_108 : decode cX3_apply 108 = .ok (.goto 22, 3) := by decide +kernel
theorem dX3_apply_111 : decode cX3_apply 111 = .ok (.iload 4, 2) := by decide +kernel
theorem dX3_apply_113 : decode cX3_apply 113 = .ok (.iconst 2, 1) := by decide +kernel
theorem dX3_apply_114 : decode cX3_apply 114 = .ok (.if_icmp .ne 15, 3) := by decide +kernel
theorem dX3_apply_117 : decode cX3_apply 117 = .ok (.aload_n 0, 1) := by decide +kernel
theorem dX3_apply_118 : decode cX3_apply 118 = .ok (.getfield 14, 3) := by decide +kernel
theorem dX3_apply_121 : decode cX3_apply 121 = .ok (.iload_n 2, 1) := by decide +kernel
theorem dX3_apply_122 : decode cX3_apply 122 = .ok (.iconst 3, 1) := by decide +kernel
theorem dX3_apply_123 : decode cX3_apply 123 = .ok (.invokevirtual 52, 3) := by decide +kernel
theorem dX3_apply_126 : decode cX3_apply 126 = .ok (.goto 4, 3) := by decide +kernel
theorem dX3_apply_129 : decode cX3_apply 129 = .ok (.iload_n 1, 1) := by decide +kernel
theorem dX3_apply_130 : decode cX3_apply 130 = .ok (.ireturn, 1) := by decide +kernel
theorem dX3_apply_131 : decode cX3_apply 131 = .ok (.iload 4, 2) := by decide +kernel
theorem dX3_apply_133 : decode cX3_apply 133 = .ok (.ifCond .ne 7, 3) := by decide +kernel
theorem dX3_apply_136 : decode cX3_apply 136 = .ok (.iload_n 3, 1) := by decide +kernel
theorem dX3_apply_137 : decode cX3_apply 137 = .ok (.goto 20, 3) := by decide +kernel
theorem dX3_apply_140 : decode cX3_apply 140 = .ok (.aload_n 0, 1) := by decide +kernel
theorem dX3_apply_141 : decode cX3_apply 141 = .ok (.getfield 14, 3) := by decide +kernel
theorem dX3_apply_144 : decode cX3_apply 144 = .ok (.iload_n 3, 1) := by decide +kernel
theorem dX3_apply_145 : decode cX3_apply 145 = .ok (.iconst 0, 1) := by decide +kernel
theorem dX3_apply_146 : decode cX3_apply 146 = .ok (.invokevirtual 52, 3) := by decide +kernel
theorem dX3_apply_149 : decode cX3_apply 149 = .ok (.ifCond .ne 7, 3) := by decide +kernel
theorem dX3_apply_152 : decode cX3_apply 152 = .ok (.iload_n 2, 1) := by decide +kernel
theorem dX3_apply_153 : decode cX3_apply 153 = .ok (.goto 4, 3) := by decide +kernel
theorem dX3_apply_156 : decode cX3_apply 156 = .ok (.iload_n 1, 1) := by decide +kernel
theorem dX3_apply_157 : decode cX3_apply 157 = .ok (.ireturn, 1) := by decide +kernel
theorem dX3_apply_158 : decode cX3_apply 158 = .ok (.aload_n 0, 1) := by decide +kernel
theorem dX3_apply_159 : decode cX3_apply 159 = .ok (.getfield 14, 3) := by decide +kernel
theorem dX3_apply_162 : decode cX3_apply 162 = .ok (.iload_n 2, 1) := by decide +kernel
theorem dX3_apply_163 : decode cX3_apply 163 = .ok (.aload_n 0, 1) := by decide +kernel
theorem dX3_apply_164 : decode cX3_apply 164 = .ok (.getfield 14, 3) := by decide +kernel
theorem dX3_apply_167 : decode cX3_apply 167 = .ok (.iload_n 3, 1) := by decide +kernel
theorem dX3_apply_168 : decode cX3_apply 168 = .ok (.iconst 0, 1) := by decide +kernel
theorem dX3_apply_169 : decode cX3_apply 169 = .ok (.invokestatic 48, 3) := by decide +kernel
theorem dX3_apply_172 : decode cX3_apply 172 = .ok (.ifCond .eq 7, 3) := by decide +kernel
theorem dX3_apply_175 : decode cX3_apply 175 = .ok (.iload_n 2, 1) := by decide +kernel
theorem dX3_apply_176 : decode cX3_apply 176 = .ok (.goto 4, 3) := by decide +kernel
theorem dX3_apply_179 : decode cX3_apply 179 = .ok (.iload_n 1, 1) := by decide +kernel
theorem dX3_apply_180 : decode cX3_apply 180 = .ok (.ireturn, 1) := by decide +kernel
theorem dX3_apply_181 : decode cX3_apply 181 = .ok (.iload 4, 2) := by decide +kernel
theorem dX3_apply_183 : decode cX3_apply 183 = .ok (.ifCond .ne 7, 3) := by decide +kernel
theorem dX3_apply_186 : decode cX3_apply 186 = .ok (.iload_n 2, 1) := by decide +kernel
theorem dX3_apply_187 : decode cX3_apply 187 = .ok (.goto 9, 3) := by decide +kernel
theorem dX3_apply_190 : decode cX3_apply 190 = .ok (.aload_n 0, 1) := by decide +kernel
theorem dX3_apply_191 : decode cX3_apply 191 = .ok (.iload_n 1, 1) := by decide +kernel
theorem dX3_apply_192 : decode cX3_apply 192 = .ok (.iload_n 2, 1) := by decide +kernel
theorem dX3_apply_193 : decode cX3_apply 193 = .ok (.invokevirtual 59, 3) := by decide +kernel
theorem dX3_apply_196 : decode cX3_apply 196 = .ok (.ireturn, 1) := by decide +kernel
theorem dX3_apply_197 : decode cX3_apply 197 = .ok (.iload 4, 2) := by decide +kernel
theorem dX3_apply_199 : decode cX3_apply 199 = .ok (.bipush 10, 2) := by decide +kernel
theorem dX3_apply_201 : decode cX3_apply 201 = .ok (.if_icmp .ne 12, 3) := by decide +kernel
theorem dX3_apply_204 : decode cX3_apply 204 = .ok (.aload_n 0, 1) := by decide +kernel
theorem dX3_apply_205 : decode cX3_apply 205 = .ok (.iload_n 1, 1) := by decide +kernel
theorem dX3_apply_206 : decode cX3_apply 206 = .ok (.iload_n 2, 1) := by decide +kernel
theorem dX3_apply_207 : decode cX3_apply 207 = .ok (.invokevirtual 62, 3) := by decide +kernel
theorem dX3_apply_210 : decode cX3_apply 210 = .ok (.goto 13, 3) := by decide +kernel
theorem dX3_apply_213 : decode cX3_apply 213 = .ok (.iload 4, 2) := by decide +kernel
theorem dX3_apply_215 : decode cX3_apply 215 = .ok (.ifCond .ne 7, 3) := by decide +kernel
theorem dX3_apply_218 : decode cX3_apply 218 = .ok (.iload_n 2, 1) := by decide +kernel
theorem dX3_apply_219 : decode cX3_apply 219 = .ok (.goto 4, 3) := by decide +kernel
theorem dX3_apply_222 : decode cX3_apply 222 = .ok (.iload_n 1, 1) := by decide +kernel
theorem dX3_apply_223 : decode cX3_apply 223 = .ok (.ireturn, 1) := by decide +kernel
theorem dX3_apply_224 : decode cX3_apply 224 = .ok (.iload 4, 2) := by decide +kernel
theorem dX3_apply_226 : decode cX3_apply 226 = .ok (.ifCond .ne 7, 3) := by decide +kernel
theorem dX3_apply_229 : decode cX3_apply 229 = .ok (.iload_n 2, 1) := by decide +kernel
theorem dX3_apply_230 : decode cX3_apply 230 = .ok (.goto 4, 3) := by decide +kernel
theorem dX3_apply_233 : decode cX3_apply 233 = .ok (.iload_n 1, 1) := by decide +kernel
theorem dX3_apply_234 : decode cX3_apply 234 = .ok (.ireturn, 1) := by decide +kernel
theorem dX3_scaleLaw_0 : decode cX3_scaleLaw 0 = .ok (.aload_n 0, 1) := by decide +kernel
theorem dX3_scaleLaw_1 : decode cX3_scaleLaw 1 = .ok (.getfield 14, 3) := by decide +kernel
theorem dX3_scaleLaw_4 : decode cX3_scaleLaw 4 = .ok (.iload_n 1, 1) := by decide +kernel
theorem dX3_scaleLaw_5 : decode cX3_scaleLaw 5 = .ok (.iconst 5, 1) := by decide +kernel
theorem dX3_scaleLaw_6 : decode cX3_scaleLaw 6 = .ok (.invokevirtual 52, 3) := by decide +kernel
theorem dX3_scaleLaw_9 : decode cX3_scaleLaw 9 = .ok (.istore_n 3, 1) := by decide +kernel
theorem dX3_scaleLaw_10 : decode cX3_scaleLaw 10 = .ok (.aload_n 0, 1) := by decide +kernel
theorem dX3_scaleLaw_11 : decode cX3_scaleLaw 11 = .ok (.getfield 14, 3) := by decide +kernel
theorem dX3_scaleLaw_14 : decode cX3_scaleLaw 14 = .ok (.iload_n 1, 1) := by decide +kernel
theorem dX3_scaleLaw_15 : decode cX3_scaleLaw 15 = .ok (.bipush 6, 2) := by decide +kernel
theorem dX3_scaleLaw_17 : decode cX3_scaleLaw 17 = .ok (.invokevirtual 52, 3) := by decide +kernel
theorem dX3_scaleLaw_20 : decode cX3_scaleLaw 20 = .ok (.iload_n 3, 1) := by decide +kernel
theorem dX3_scaleLaw_21 : decode cX3_scaleLaw 21 = .ok (.isub, 1) := by decide +kernel
theorem dX3_scaleLaw_22 : decode cX3_scaleLaw 22 = .ok (.iconst 1, 1) := by decide +kernel
theorem dX3_scaleLaw_23 : decode cX3_scaleLaw 23 = .ok (.if_icmp .eq 5, 3) := by decide +kernel
theorem dX3_scaleLaw_26 : decode cX3_scaleLaw 26 = .ok (.iload_n 1, 1) := by decide +kernel
theorem dX3_scaleLaw_27 : decode cX3_scaleLaw 27 = .ok (.ireturn, 1) := by decide +kernel
theorem dX3_scaleLaw_28 : decode cX3_scaleLaw 28 = .ok (.aload_n 0, 1) := by decide +kernel
theorem dX3_scaleLaw_29 : decode cX3_scaleLaw 29 = .ok (.getfield 14, 3) := by decide +kernel
theorem dX3_scaleLaw_32 : decode cX3_scaleLaw 32 = .ok (.iload_n 3, 1) := by decide +kernel
theorem dX3_scaleLaw_33 : decode cX3_scaleLaw 33 = .ok (.invokevirtual 65, 3) := by decide +kernel
theorem dX3_scaleLaw_36 : decode cX3_scaleLaw 36 = .ok (.istore 4, 2) := by decide +kernel
theorem dX3_scaleLaw_38 : decode cX3_scaleLaw 38 = .ok (.iload 4, 2) := by decide +kernel
theorem dX3_scaleLaw_40 : decode cX3_scaleLaw 40 = .ok (.ifCond .ne 8, 3) := by decide +kernel
theorem dX3_scaleLaw_43 : decode cX3_scaleLaw 43 = .ok (.aload_n 0, 1) := by decide +kernel
theorem dX3_scaleLaw_44 : decode cX3_scaleLaw 44 = .ok (.iload_n 1, 1) := by decide +kernel
theorem dX3_scaleLaw_45 : decode cX3_scaleLaw 45 = .ok (.invokevirtual 68, 3) := by decide +kernel
theorem dX3_scaleLaw_48 : decode cX3_scaleLaw 48 = .ok (.iload 4, 2) := by decide +kernel
theorem dX3_scaleLaw_50 : decode cX3_scaleLaw 50 = .ok (.iconst 1, 1) := by decide +kernel
theorem dX3_scaleLaw_51 : decode cX3_scaleLaw 51 = .ok (.if_icmp .ne 7, 3) := by decide +kernel
theorem dX3_scaleLaw_54 : decode cX3_scaleLaw 54 = .ok (.iload_n 2, 1) := by decide +kernel
theorem dX3_scaleLaw_55 : decode cX3_scaleLaw 55 = .ok (.goto 4, 3) := by decide +kernel
theorem dX3_scaleLaw_58 : decode cX3_scaleLaw 58 = .ok (.iload_n 1, 1) := by decide +kernel
theorem dX3_scaleLaw_59 : decode cX3_scaleLaw 59 = .ok (.ireturn, 1) := by decide +kernel
theorem dX3_makeNothing_0 : decode cX3_makeNothing 0 = .ok (.aload_n 0, 1) := by decide +kernel
theorem dX3_makeNothing_1 : decode cX3_makeNothing 1 = .ok (.getfield 14, 3) := by decide +kernel
theorem dX3_makeNothing_4 : decode cX3_makeNothing 4 = .ok (.iload_n 1, 1) := by decide +kernel
theorem dX3_makeNothing_5 : decode cX3_makeNothing 5 = .ok (.iconst 0, 1) := by decide +kernel
theorem dX3_makeNothing_6 : decode cX3_makeNothing 6 = .ok (.iconst 0, 1) := by decide +kernel
theorem dX3_makeNothing_7 : decode cX3_makeNothing 7 = .ok (.invokevirtual 55, 3) := by decide +kernel
theorem dX3_makeNothing_10 : decode cX3_makeNothing 10 = .ok (.aload_n 0, 1) := by decide +kernel
theorem dX3_makeNothing_11 : decode cX3_makeNothing 11 = .ok (.getfield 14, 3) := by decide +kernel
theorem dX3_makeNothing_14 : decode cX3_makeNothing 14 = .ok (.iload_n 1, 1) := by decide +kernel
theorem dX3_makeNothing_15 : decode cX3_makeNothing 15 = .ok (.iconst 5, 1) := by decide +kernel
theorem dX3_makeNothing_16 : decode cX3_makeNothing 16 = .ok (.iconst (-1), 1) := by decide +kernel
theorem dX3_makeNothing_17 : decode cX3_makeNothing 17 = .ok (.invokevirtual 55, 3) := by decide +kernel
theorem dX3_makeNothing_20 : decode cX3_makeNothing 20 = .ok (.aload_n 0, 1) := by decide +kernel
theorem dX3_makeNothing_21 : decode cX3_makeNothing 21 = .ok (.getfield 14, 3) := by decide +kernel
theorem dX3_makeNothing_24 : decode cX3_makeNothing 24 = .ok (.iload_n 1, 1) := by decide +kernel
theorem dX3_makeNothing_25 : decode cX3_makeNothing 25 = .ok (.bipush 6, 2) := by decide +kernel
theorem dX3_makeNothing_27 : decode cX3_makeNothing 27 = .ok (.iconst (-1), 1) := by decide +kernel
theorem dX3_makeNothing_28 : decode cX3_makeNothing 28 = .ok (.invokevirtual 55, 3) := by decide +kernel
theorem dX3_makeNothing_31 : decode cX3_makeNothing 31 = .ok (.aload_n 0, 1) := by decide +kernel
theorem dX3_makeNothing_32 : decode cX3_makeNothing 32 = .ok (.getfield 14, 3) := by decide +kernel
theorem dX3_makeNothing_35 : decode cX3_makeNothing 35 = .ok (.iload_n 1, 1) := by decide +kernel
theorem dX3_makeNothing_36 : decode cX3_makeNothing 36 = .ok (.bipush 7, 2) := by decide +kernel
theorem dX3_makeNothing_38 : decode cX3_makeNothing 38 = .ok (.iconst (-1), 1) := by decide +kernel
theorem dX3_makeNothing_39 : decode cX3_makeNothing 39 = .ok (.invokevirtual 55, 3) := by decide +kernel
theorem dX3_makeNothing_42 : decode cX3_makeNothing 42 = .ok (.return_, 1) := by decide +kernel
theorem dX3_capLaw_0 : decode cX3_capLaw 0 = .ok (.aload_n 0, 1) := by decide +kernel
theorem dX3_capLaw_1 : decode cX3_capLaw 1 = .ok (.getfield 14, 3) := by decide +kernel
theorem dX3_capLaw_4 : decode cX3_capLaw 4 = .ok (.iload_n 1, 1) := by decide +kernel
theorem dX3_capLaw_5 : decode cX3_capLaw 5 = .ok (.iconst 2, 1) := by decide +kernel
theorem dX3_capLaw_6 : decode cX3_capLaw 6 = .ok (.invokevirtual 52, 3) := by decide +kernel
theorem dX3_capLaw_9 : decode cX3_capLaw 9 = .ok (.aload_n 0, 1) := by decide +kernel
theorem dX3_capLaw_10 : decode cX3_capLaw 10 = .ok (.getfield 14, 3) := by decide +kernel
theorem dX3_capLaw_13 : decode cX3_capLaw 13 = .ok (.iload_n 2, 1) := by decide +kernel
theorem dX3_capLaw_14 : decode cX3_capLaw 14 = .ok (.iconst 2, 1) := by decide +kernel
theorem dX3_capLaw_15 : decode cX3_capLaw 15 = .ok (.invokevirtual 52, 3) := by decide +kernel
theorem dX3_capLaw_18 : decode cX3_capLaw 18 = .ok (.invokestatic 35, 3) := by decide +kernel
theorem dX3_capLaw_21 : decode cX3_capLaw 21 = .ok (.istore_n 3, 1) := by decide +kernel
theorem dX3_capLaw_22 : decode cX3_capLaw 22 = .ok (.aload_n 0, 1) := by decide +kernel
theorem dX3_capLaw_23 : decode cX3_capLaw 23 = .ok (.getfield 14, 3) := by decide +kernel
theorem dX3_capLaw_26 : decode cX3_capLaw 26 = .ok (.iload_n 2, 1) := by decide +kernel
theorem dX3_capLaw_27 : decode cX3_capLaw 27 = .ok (.iconst 2, 1) := by decide +kernel
theorem dX3_capLaw_28 : decode cX3_capLaw 28 = .ok (.iload_n 3, 1) := by decide +kernel
theorem dX3_capLaw_29 : decode cX3_capLaw 29 = .ok (.invokevirtual 55, 3) := by decide +kernel
theorem dX3_capLaw_32 : decode cX3_capLaw 32 = .ok (.iload_n 2, 1) := by decide +kernel
theorem dX3_capLaw_33 : decode cX3_capLaw 33 = .ok (.ireturn, 1) := by decide +kernel
theorem dX3_copyDeed_0 : decode cX3_copyDeed 0 = .ok (.aload_n 0, 1) := by decide +kernel
theorem dX3_copyDeed_1 : decode cX3_copyDeed 1 = .ok (.iload_n 1, 1) := by decide +kernel
theorem dX3_copyDeed_2 : decode cX3_copyDeed 2 = .ok (.iconst 0, 1) := by decide +kernel
theorem dX3_copyDeed_3 : decode cX3_copyDeed 3 = .ok (.invokevirtual 52, 3) := by decide +kernel
theorem dX3_copyDeed_6 : decode cX3_copyDeed 6 = .ok (.istore 4, 2) := by decide +kernel
theorem dX3_copyDeed_8 : decode cX3_copyDeed 8 = .ok (.iload 4, 2) := by decide +kernel
theorem dX3_copyDeed_10 : decode cX3_copyDeed 10 = .ok (.iconst (-1), 1) := by decide +kernel
theorem dX3_copyDeed_11 : decode cX3_copyDeed 11 = .ok (.if_icmp .ne 4, 3) := by decide +kernel
theorem dX3_copyDeed_14 : decode cX3_copyDeed 14 = .ok (.return_, 1) := by decide +kernel
theorem dX3_copyDeed_15 : decode cX3_copyDeed 15 = .ok (.aload_n 2, 1) := by decide +kernel
theorem dX3_copyDeed_16 : decode cX3_copyDeed 16 = .ok (.iload 4, 2) := by decide +kernel
theorem dX3_copyDeed_18 : decode cX3_copyDeed 18 = .ok (.iload_n 3, 1) := by decide +kernel
theorem dX3_copyDeed_19 : decode cX3_copyDeed 19 = .ok (.invokevirtual 72, 3) := by decide +kernel
theorem dX3_copyDeed_22 : decode cX3_copyDeed 22 = .ok (.istore 5, 2) := by decide +kernel
theorem dX3_copyDeed_24 : decode cX3_copyDeed 24 = .ok (.iload 5, 2) := by decide +kernel
theorem dX3_copyDeed_26 : decode cX3_copyDeed 26 = .ok (.iconst (-1), 1) := by decide +kernel
theorem dX3_copyDeed_27 : decode cX3_copyDeed 27 = .ok (.if_icmp .ne 4, 3) := by decide +kernel
theorem dX3_copyDeed_30 : decode cX3_copyDeed 30 = .ok (.return_, 1) := by decide +kernel
theorem dX3_copyDeed_31 : decode cX3_copyDeed 31 = .ok (.aload_n 2, 1) := by decide +kernel
theorem dX3_copyDeed_32 : decode cX3_copyDeed 32 = .ok (.iload 5, 2) := by decide +kernel
theorem dX3_copyDeed_34 : decode cX3_copyDeed 34 = .ok (.iconst 2, 1) := by decide +kernel
theorem dX3_copyDeed_35 : decode cX3_copyDeed 35 = .ok (.aload_n 0, 1) := by decide +kernel
theorem dX3_copyDeed_36 : decode cX3_copyDeed 36 = .ok (.iload_n 1, 1) := by decide +kernel
theorem dX3_copyDeed_37 : decode cX3_copyDeed 37 = .ok (.iconst 2, 1) := by decide +kernel
theorem dX3_copyDeed_38 : decode cX3_copyDeed 38 = .ok (.invokevirtual 52, 3) := by decide +kernel
theorem dX3_copyDeed_41 : decode cX3_copyDeed 41 = .ok (.invokevirtual 55, 3) := by decide +kernel
theorem dX3_copyDeed_44 : decode cX3_copyDeed 44 = .ok (.iload 4, 2) := by decide +kernel
theorem dX3_copyDeed_46 : decode cX3_copyDeed 46 = .ok (.invokestatic 75, 3) := by decide +kernel
theorem dX3_copyDeed_49 : decode cX3_copyDeed 49 = .ok (.ifCond .eq 11, 3) := by decide +kernel
theorem dX3_copyDeed_52 : decode cX3_copyDeed 52 = .ok (.aload_n 0, 1) := by decide +kernel
theorem dX3_copyDeed_53 : decode cX3_copyDeed 53 = .ok (.iload_n 1, 1) := by decide +kernel
theorem dX3_copyDeed_54 : decode cX3_copyDeed 54 = .ok (.aload_n 2, 1) := by decide +kernel
theorem dX3_copyDeed_55 : decode cX3_copyDeed 55 = .ok (.iload 5, 2) := by decide +kernel
theorem dX3_copyDeed_57 : decode cX3_copyDeed 57 = .ok (.invokestatic 79, 3) := by decide +kernel
theorem dX3_copyDeed_60 : decode cX3_copyDeed 60 = .ok (.iload 4, 2) := by decide +kernel
theorem dX3_copyDeed_62 : decode cX3_copyDeed 62 = .ok (.invokestatic 82, 3) := by decide +kernel
theorem dX3_copyDeed_65 : decode cX3_copyDeed 65 = .ok (.ifCond .eq 16, 3) := by decide +kernel
theorem dX3_copyDeed_68 : decode cX3_copyDeed 68 = .ok (.aload_n 0, 1) := by decide +kernel
theorem dX3_copyDeed_69 : decode cX3_copyDeed 69 = .ok (.aload_n 0, 1) := by decide +kernel
theorem dX3_copyDeed_70 : decode cX3_copyDeed 70 = .ok (.iload_n 1, 1) := by decide +kernel
theorem dX3_copyDeed_71 : decode cX3_copyDeed 71 = .ok (.iconst 3, 1) := by decide +kernel
theorem dX3_copyDeed_72 : decode cX3_copyDeed 72 = .ok (.invokevirtual 52, 3) := by decide +kernel
theorem dX3_copyDeed_75 : decode cX3_copyDeed 75 = .ok (.aload_n 2, 1) := by decide +kernel
theorem dX3_copyDeed_76 : decode cX3_copyDeed 76 = .ok (.iload 5, 2) := by decide +kernel
theorem dX3_copyDeed_78 : decode cX3_copyDeed 78 = .ok (.invokestatic 27, 3) := by decide +kernel
theorem dX3_copyDeed_81 : decode cX3_copyDeed 81 = .ok (.iload 4, 2) := by decide +kernel
theorem dX3_copyDeed_83 : decode cX3_copyDeed 83 = .ok (.invokestatic 85, 3) := by decide +kernel
theorem dX3_copyDeed_86 : decode cX3_copyDeed 86 = .ok (.ifCond .eq 16, 3) := by decide +kernel
theorem dX3_copyDeed_89 : decode cX3_copyDeed 89 = .ok (.aload_n 0, 1) := by decide +kernel
theorem dX3_copyDeed_90 : decode cX3_copyDeed 90 = .ok (.aload_n 0, 1) := by decide +kernel
theorem dX3_copyDeed_91 : decode cX3_copyDeed 91 = .ok (.iload_n 1, 1) := by decide +kernel
theorem dX3_copyDeed_92 : decode cX3_copyDeed 92 = .ok (.iconst 4, 1) := by decide +kernel
theorem dX3_copyDeed_93 : decode cX3_copyDeed 93 = .ok (.invokevirtual 52, 3) := by decide +kernel
theorem dX3_copyDeed_96 : decode cX3_copyDeed 96 = .ok (.aload_n 2, 1) := by decide +kernel
theorem dX3_copyDeed_97 : decode cX3_copyDeed 97 = .ok (.iload 5, 2) := by decide +kernel
theorem dX3_copyDeed_99 : decode cX3_copyDeed 99 = .ok (.invokestatic 27, 3) := by decide +kernel
theorem dX3_copyDeed_102 : decode cX3_copyDeed 102 = .ok (.return_, 1) := by decide +kernel
theorem dX3_copySums_0 : decode cX3_copySums 0 = .ok (.aload_n 0, 1) := by decide +kernel
theorem dX3_copySums_1 : decode cX3_copySums 1 = .ok (.iload_n 1, 1) := by decide +kernel
theorem dX3_copySums_2 : decode cX3_copySums 2 = .ok (.iconst 5, 1) := by decide +kernel
theorem dX3_copySums_3 : decode cX3_copySums 3 = .ok (.invokevirtual 52, 3) := by decide +kernel
theorem dX3_copySums_6 : decode cX3_copySums 6 = .ok (.istore 4, 2) := by decide +kernel
theorem dX3_copySums_8 : decode cX3_copySums 8 = .ok (.aload_n 0, 1) := by decide +kernel
theorem dX3_copySums_9 : decode cX3_copySums 9 = .ok (.iload_n 1, 1) := by decide +kernel
theorem dX3_copySums_10 : decode cX3_copySums 10 = .ok (.bipush 7, 2) := by decide +kernel
theorem dX3_copySums_12 : decode cX3_copySums 12 = .ok (.invokevirtual 52, 3) := by decide +kernel
theorem dX3_copySums_15 : decode cX3_copySums 15 = .ok (.istore 5, 2) := by decide +kernel
theorem dX3_copySums_17 : decode cX3_copySums 17 = .ok (.aload_n 2, 1) := by decide +kernel
theorem dX3_copySums_18 : decode cX3_copySums 18 = .ok (.invokevirtual 88, 3) := by decide +kernel
theorem dX3_copySums_21 : decode cX3_copySums 21 = .ok (.istore 6, 2) := by decide +kernel
theorem dX3_copySums_23 : decode cX3_copySums 23 = .ok (.iload 4, 2) := by decide +kernel
theorem dX3_copySums_25 : decode cX3_copySums 25 = .ok (.iconst 0, 1) := by decide +kernel
theorem dX3_copySums_26 : decode cX3_copySums 26 = .ok (.invokestatic 91, 3) := by decide +kernel
theorem dX3_copySums_29 : decode cX3_copySums 29 = .ok (.istore 7, 2) := by decide +kernel
theorem dX3_copySums_31 : decode cX3_copySums 31 = .ok (.iload 7, 2) := by decide +kernel
theorem dX3_copySums_33 : decode cX3_copySums 33 = .ok (.iload 5, 2) := by decide +kernel
theorem dX3_copySums_35 : decode cX3_copySums 35 = .ok (.if_icmp .ge 35, 3) := by decide +kernel
theorem dX3_copySums_38 : decode cX3_copySums 38 = .ok (.iload 7, 2) := by decide +kernel
theorem dX3_copySums_40 : decode cX3_copySums 40 = .ok (.aload_n 0, 1) := by decide +kernel
theorem dX3_copySums_41 : decode cX3_copySums 41 = .ok (.invokevirtual 88, 3) := by decide +kernel
theorem dX3_copySums_44 : decode cX3_copySums 44 = .ok (.if_icmp .ge 26, 3) := by decide +kernel
theorem dX3_copySums_47 : decode cX3_copySums 47 = .ok (.aload_n 2, 1) := by decide +kernel
theorem dX3_copySums_48 : decode cX3_copySums 48 = .ok (.aload_n 0, 1) := by decide +kernel
theorem dX3_copySums_49 : decode cX3_copySums 49 = .ok (.iload 7, 2) := by decide +kernel
theorem dX3_copySums_51 : decode cX3_copySums 51 = .ok (.invokevirtual 94, 3) := by decide +kernel
theorem dX3_copySums_54 : decode cX3_copySums 54 = .ok (.aload_n 0, 1) := by decide +kernel
theorem dX3_copySums_55 : decode cX3_copySums 55 = .ok (.iload 7, 2) := by decide +kernel
theorem dX3_copySums_57 : decode cX3_copySums 57 = .ok (.invokevirtual 65, 3) := by decide +kernel
theorem dX3_copySums_60 : decode cX3_copySums 60 = .ok (.invokevirtual 97, 3) := by decide +kernel
theorem dX3_copySums_63 : decode cX3_copySums 63 = .ok (.pop, 1) := by decide +kernel
theorem dX3_copySums_64 : decode cX3_copySums 64 = .ok (.iinc 7 1, 3) := by decide +kernel
theorem dX3_copySums_67 : decode cX3_copySums 67 = .ok (.goto (-36), 3) := by decide +kernel
theorem dX3_copySums_70 : decode cX3_copySums 70 = .ok (.aload_n 2, 1) := by decide +kernel
theorem dX3_copySums_71 : decode cX3_copySums 71 = .ok (.iload_n 3, 1) := by decide +kernel
theorem dX3_copySums_72 : decode cX3_copySums 72 = .ok (.iconst 5, 1) := by decide +kernel
theorem dX3_copySums_73 : decode cX3_copySums 73 = .ok (.iload 6, 2) := by decide +kernel
theorem dX3_copySums_75 : decode cX3_copySums 75 = .ok (.invokevirtual 55, 3) := by decide +kernel
theorem dX3_copySums_78 : decode cX3_copySums 78 = .ok (.aload_n 2, 1) := by decide +kernel
theorem dX3_copySums_79 : decode cX3_copySums 79 = .ok (.iload_n 3, 1) := by decide +kernel
theorem dX3_copySums_80 : decode cX3_copySums 80 = .ok (.bipush 6, 2) := by decide +kernel
theorem dX3_copySums_82 : decode cX3_copySums 82 = .ok (.iload 6, 2) := by decide +kernel
theorem dX3_copySums_84 : decode cX3_copySums 84 = .ok (.aload_n 0, 1) := by decide +kernel
theorem dX3_copySums_85 : decode cX3_copySums 85 = .ok (.iload_n 1, 1) := by decide +kernel
theorem dX3_copySums_86 : decode cX3_copySums 86 = .ok (.bipush 6, 2) := by decide +kernel
theorem dX3_copySums_88 : decode cX3_copySums 88 = .ok (.invokevirtual 52, 3) := by decide +kernel
theorem dX3_copySums_91 : decode cX3_copySums 91 = .ok (.iadd, 1) := by decide +kernel
theorem dX3_copySums_92 : decode cX3_copySums 92 = .ok (.iload 4, 2) := by decide +kernel
theorem dX3_copySums_94 : decode cX3_copySums 94 = .ok (.isub, 1) := by decide +kernel
theorem dX3_copySums_95 : decode cX3_copySums 95 = .ok (.invokevirtual 55, 3) := by decide +kernel
theorem dX3_copySums_98 : decode cX3_copySums 98 = .ok (.aload_n 2, 1) := by decide +kernel
theorem dX3_copySums_99 : decode cX3_copySums 99 = .ok (.iload_n 3, 1) := by decide +kernel
theorem dX3_copySums_100 : decode cX3_copySums 100 = .ok (.bipush 7, 2) := by decide +kernel
theorem dX3_copySums_102 : decode cX3_copySums 102 = .ok (.iload 6, 2) := by decide +kernel
theorem dX3_copySums_104 : decode cX3_copySums 104 = .ok (.iload 5, 2) := by decide +kernel
theorem dX3_copySums_106 : decode cX3_copySums 106 = .ok (.iadd, 1) := by decide +kernel
theorem dX3_copySums_107 : decode cX3_copySums 107 = .ok (.iload 4, 2) := by decide +kernel
theorem dX3_copySums_109 : decode cX3_copySums 109 = .ok (.isub, 1) := by decide +kernel
theorem dX3_copySums_110 : decode cX3_copySums 110 = .ok (.invokevirtual 55, 3) := by decide +kernel
theorem dX3_copySums_113 : decode cX3_copySums 113 = .ok (.aload_n 2, 1) := by decide +kernel
theorem dX3_copySums_114 : decode cX3_copySums 114 = .ok (.iload_n 3, 1) := by decide +kernel
theorem dX3_copySums_115 : decode cX3_copySums 115 = .ok (.bipush 8, 2) := by decide +kernel
theorem dX3_copySums_117 : decode cX3_copySums 117 = .ok (.aload_n 0, 1) := by decide +kernel
theorem dX3_copySums_118 : decode cX3_copySums 118 = .ok (.iload_n 1, 1) := by decide +kernel
theorem dX3_copySums_119 : decode cX3_copySums 119 = .ok (.bipush 8, 2) := by decide +kernel
theorem dX3_copySums_121 : decode cX3_copySums 121 = .ok (.invokevirtual 52, 3) := by decide +kernel
theorem dX3_copySums_124 : decode cX3_copySums 124 = .ok (.invokevirtual 55, 3) := by decide +kernel
theorem dX3_copySums_127 : decode cX3_copySums 127 = .ok (.return_, 1) := by decide +kernel
theorem dX3_alike_0 : decode cX3_alike 0 = .ok (.aload_n 0, 1) := by decide +kernel
theorem dX3_alike_1 : decode cX3_alike 1 = .ok (.iload_n 1, 1) := by decide +kernel
theorem dX3_alike_2 : decode cX3_alike 2 = .ok (.iconst 0, 1) := by decide +kernel
theorem dX3_alike_3 : decode cX3_alike 3 = .ok (.invokevirtual 52, 3) := by decide +kernel
theorem dX3_alike_6 : decode cX3_alike 6 = .ok (.istore 5, 2) := by decide +kernel
theorem dX3_alike_8 : decode cX3_alike 8 = .ok (.iload 5, 2) := by decide +kernel
theorem dX3_alike_10 : decode cX3_alike 10 = .ok (.iconst (-1), 1) := by decide +kernel
theorem dX3_alike_11 : decode cX3_alike 11 = .ok (.if_icmp .eq 24, 3) := by decide +kernel
theorem dX3_alike_14 : decode cX3_alike 14 = .ok (.iload 5, 2) := by decide +kernel
theorem dX3_alike_16 : decode cX3_alike 16 = .ok (.aload_n 2, 1) := by decide +kernel
theorem dX3_alike_17 : decode cX3_alike 17 = .ok (.iload_n 3, 1) := by decide +kernel
theorem dX3_alike_18 : decode cX3_alike 18 = .ok (.iconst 0, 1) := by decide +kernel
theorem dX3_alike_19 : decode cX3_alike 19 = .ok (.invokevirtual 52, 3) := by decide +kernel
theorem dX3_alike_22 : decode cX3_alike 22 = .ok (.if_icmp .ne 13, 3) := by decide +kernel
theorem dX3_alike_25 : decode cX3_alike 25 = .ok (.aload_n 0, 1) := by decide +kernel
theorem dX3_alike_26 : decode cX3_alike 26 = .ok (.iload_n 1, 1) := by decide +kernel
theorem dX3_alike_27 : decode cX3_alike 27 = .ok (.aload_n 2, 1) := by decide +kernel
theorem dX3_alike_28 : decode cX3_alike 28 = .ok (.iload_n 3, 1) := by decide +kernel
theorem dX3_alike_29 : decode cX3_alike 29 = .ok (.invokestatic 101, 3) := by decide +kernel
theorem dX3_alike_32 : decode cX3_alike 32 = .ok (.ifCond .ne 5, 3) := by decide +kernel
theorem dX3_alike_35 : decode cX3_alike 35 = .ok (.iconst 0, 1) := by decide +kernel
theorem dX3_alike_36 : decode cX3_alike 36 = .ok (.ireturn, 1) := by decide +kernel
theorem dX3_alike_37 : decode cX3_alike 37 = .ok (.iload 5, 2) := by decide +kernel
theorem dX3_alike_39 : decode cX3_alike 39 = .ok (.invokestatic 82, 3) := by decide +kernel
theorem dX3_alike_42 : decode cX3_alike 42 = .ok (.ifCond .ne 5, 3) := by decide +kernel
theorem dX3_alike_45 : decode cX3_alike 45 = .ok (.iconst 1, 1) := by decide +kernel
theorem dX3_alike_46 : decode cX3_alike 46 = .ok (.ireturn, 1) := by decide +kernel
theorem dX3_alike_47 : decode cX3_alike 47 = .ok (.aload_n 0, 1) := by decide +kernel
theorem dX3_alike_48 : decode cX3_alike 48 = .ok (.iload_n 1, 1) := by decide +kernel
theorem dX3_alike_49 : decode cX3_alike 49 = .ok (.iconst 3, 1) := by decide +kernel
theorem dX3_alike_50 : decode cX3_alike 50 = .ok (.invokevirtual 52, 3) := by decide +kernel
theorem dX3_alike_53 : decode cX3_alike 53 = .ok (.istore 6, 2) := by decide +kernel
theorem dX3_alike_55 : decode cX3_alike 55 = .ok (.aload_n 0, 1) := by decide +kernel
theorem dX3_alike_56 : decode cX3_alike 56 = .ok (.iload_n 1, 1) := by decide +kernel
theorem dX3_alike_57 : decode cX3_alike 57 = .ok (.iconst 4, 1) := by decide +kernel
theorem dX3_alike_58 : decode cX3_alike 58 = .ok (.invokevirtual 52, 3) := by decide +kernel
theorem dX3_alike_61 : decode cX3_alike 61 = .ok (.istore 7, 2) := by decide +kernel
theorem dX3_alike_63 : decode cX3_alike 63 = .ok (.aload_n 2, 1) := by decide +kernel
theorem dX3_alike_64 : decode cX3_alike 64 = .ok (.iload_n 3, 1) := by decide +kernel
theorem dX3_alike_65 : decode cX3_alike 65 = .ok (.iconst 3, 1) := by decide +kernel
theorem dX3_alike_66 : decode cX3_alike 66 = .ok (.invokevirtual 52, 3) := by decide +kernel
theorem dX3_alike_69 : decode cX3_alike 69 = .ok (.istore 8, 2) := by decide +kernel
theorem dX3_alike_71 : decode cX3_alike 71 = .ok (.aload_n 2, 1) := by decide +kernel
theorem dX3_alike_72 : decode cX3_alike 72 = .ok (.iload_n 3, 1) := by decide +kernel
theorem dX3_alike_73 : decode cX3_alike 73 = .ok (.iconst 4, 1) := by decide +kernel
theorem dX3_alike_74 : decode cX3_alike 74 = .ok (.invokevirtual 52, 3) := by decide +kernel
theorem dX3_alike_77 : decode cX3_alike 77 = .ok (.istore 9, 2) := by decide +kernel
theorem dX3_alike_79 : decode cX3_alike 79 = .ok (.iload 5, 2) := by decide +kernel
theorem dX3_alike_81 : decode cX3_alike 81 = .ok (.invokestatic 85, 3) := by decide +kernel
theorem dX3_alike_84 : decode cX3_alike 84 = .ok (.ifCond .ne 15, 3) := by decide +kernel
theorem dX3_alike_87 : decode cX3_alike 87 = .ok (.aload_n 0, 1) := by decide +kernel
theorem dX3_alike_88 : decode cX3_alike 88 = .ok (.iload 6, 2) := by decide +kernel
theorem dX3_alike_90 : decode cX3_alike 90 = .ok (.aload_n 2, 1) := by decide +kernel
theorem dX3_alike_91 : decode cX3_alike 91 = .ok (.iload 8, 2) := by decide +kernel
theorem dX3_alike_93 : decode cX3_alike 93 = .ok (.iload 4, 2) := by decide +kernel
theorem dX3_alike_95 : decode cX3_alike 95 = .ok (.invokestatic 48, 3) := by decide +kernel
theorem dX3_alike_98 : decode cX3_alike 98 = .ok (.ireturn, 1) := by decide +kernel
theorem dX3_alike_99 : decode cX3_alike 99 = .ok (.aload_n 0, 1) := by decide +kernel
theorem dX3_alike_100 : decode cX3_alike 100 = .ok (.iload 6, 2) := by decide +kernel
theorem dX3_alike_102 : decode cX3_alike 102 = .ok (.aload_n 2, 1) := by decide +kernel
theorem dX3_alike_103 : decode cX3_alike 103 = .ok (.iload 8, 2) := by decide +kernel
theorem dX3_alike_105 : decode cX3_alike 105 = .ok (.iload 4, 2) := by decide +kernel
theorem dX3_alike_107 : decode cX3_alike 107 = .ok (.invokestatic 48, 3) := by decide +kernel
theorem dX3_alike_110 : decode cX3_alike 110 = .ok (.ifCond .eq 19, 3) := by decide +kernel
theorem dX3_alike_113 : decode cX3_alike 113 = .ok (.aload_n 0, 1) := by decide +kernel
theorem dX3_alike_114 : decode cX3_alike 114 = .ok (.iload 7, 2) := by decide +kernel
theorem dX3_alike_116 : decode cX3_alike 116 = .ok (.aload_n 2, 1) := by decide +kernel
theorem dX3_alike_117 : decode cX3_alike 117 = .ok (.iload 9, 2) := by decide +kernel
theorem dX3_alike_119 : decode cX3_alike 119 = .ok (.iload 4, 2) := by decide +kernel
theorem dX3_alike_121 : decode cX3_alike 121 = .ok (.invokestatic 48, 3) := by decide +kernel
theorem dX3_alike_124 : decode cX3_alike 124 = .ok (.ifCond .eq 5, 3) := by decide +kernel
theorem dX3_alike_127 : decode cX3_alike 127 = .ok (.iconst 1, 1) := by decide +kernel
theorem dX3_alike_128 : decode cX3_alike 128 = .ok (.ireturn, 1) := by decide +kernel
theorem dX3_alike_129 : decode cX3_alike 129 = .ok (.iload 4, 2) := by decide +kernel
theorem dX3_alike_131 : decode cX3_alike 131 = .ok (.ifCond .eq 39, 3) := by decide +kernel
theorem dX3_alike_134 : decode cX3_alike 134 = .ok (.iload 5, 2) := by decide +kernel
theorem dX3_alike_136 : decode cX3_alike 136 = .ok (.iconst 3, 1) := by decide +kernel
theorem dX3_alike_137 : decode cX3_alike 137 = .ok (.if_icmp .ne 33, 3) := by decide +kernel
theorem dX3_alike_140 : decode cX3_alike 140 = .ok (.aload_n 0, 1) := by decide +kernel
theorem dX3_alike_141 : decode cX3_alike 141 = .ok (.iload 6, 2) := by decide +kernel
theorem dX3_alike_143 : decode cX3_alike 143 = .ok (.aload_n 2, 1) := by decide +kernel
theorem dX3_alike_144 : decode cX3_alike 144 = .ok (.iload 9, 2) := by decide +kernel
theorem dX3_alike_146 : decode cX3_alike 146 = .ok (.iconst 1, 1) := by decide +kernel
theorem dX3_alike_147 : decode cX3_alike 147 = .ok (.invokestatic 48, 3) := by decide +kernel
theorem dX3_alike_150 : decode cX3_alike 150 = .ok (.ifCond .eq 20, 3) := by decide +kernel
theorem dX3_alike_153 : decode cX3_alike 153 = .ok (.aload_n 0, 1) := by decide +kernel
theorem dX3_alike_154 : decode cX3_alike 154 = .ok (.iload 7, 2) := by decide +kernel
theorem dX3_alike_156 : decode cX3_alike 156 = .ok (.aload_n 2, 1) := by decide +kernel
theorem dX3_alike_157 : decode cX3_alike 157 = .ok (.iload 8, 2) := by decide +kernel
theorem dX3_alike_159 : decode cX3_alike 159 = .ok (.iconst 1, 1) := by decide +kernel
theorem dX3_alike_160 : decode cX3_alike 160 = .ok (.invokestatic 48, 3) := by decide +kernel
theorem dX3_alike_163 : decode cX3_alike 163 = .ok (.ifCond .eq 7, 3) := by decide +kernel
theorem dX3_alike_166 : decode cX3_alike 166 = .ok (.iconst 1, 1) := by decide +kernel
theorem dX3_alike_167 : decode cX3_alike 167 = .ok (.goto 4, 3) := by decide +kernel
theorem dX3_alike_170 : decode cX3_alike 170 = .ok (.iconst 0, 1) := by decide +kernel
theorem dX3_alike_171 : decode cX3_alike 171 = .ok (.ireturn, 1) := by decide +kernel
theorem dX3_headsAlike_0 : decode cX3_headsAlike 0 = .ok (.aload_n 0, 1) := by decide +kernel
theorem dX3_headsAlike_1 : decode cX3_headsAlike 1 = .ok (.iload_n 1, 1) := by decide +kernel
theorem dX3_headsAlike_2 : decode cX3_headsAlike 2 = .ok (.iconst 5, 1) := by decide +kernel
theorem dX3_headsAlike_3 : decode cX3_headsAlike 3 = .ok (.invokevirtual 52, 3) := by decide +kernel
theorem dX3_headsAlike_6 : decode cX3_headsAlike 6 = .ok (.istore 4, 2) := by decide +kernel
theorem dX3_headsAlike_8 : decode cX3_headsAlike 8 = .ok (.aload_n 2, 1) := by decide +kernel
theorem dX3_headsAlike_9 : decode cX3_headsAlike 9 = .ok (.iload_n 3, 1) := by decide +kernel
theorem dX3_headsAlike_10 : decode cX3_headsAlike 10 = .ok (.iconst 5, 1) := by decide +kernel
theorem dX3_headsAlike_11 : decode cX3_headsAlike 11 = .ok (.invokevirtual 52, 3) := by decide +kernel
theorem dX3_headsAlike_14 : decode cX3_headsAlike 14 = .ok (.istore 5, 2) := by decide +kernel
theorem dX3_headsAlike_16 : decode cX3_headsAlike 16 = .ok (.aload_n 0, 1) := by decide +kernel
theorem dX3_headsAlike_17 : decode cX3_headsAlike 17 = .ok (.iload_n 1, 1) := by decide +kernel
theorem dX3_headsAlike_18 : decode cX3_headsAlike 18 = .ok (.bipush 7, 2) := by decide +kernel
theorem dX3_headsAlike_20 : decode cX3_headsAlike 20 = .ok (.invokevirtual 52, 3) := by decide +kernel
theorem dX3_headsAlike_23 : decode cX3_headsAlike 23 = .ok (.iload 4, 2) := by decide +kernel
theorem dX3_headsAlike_25 : decode cX3_headsAlike 25 = .ok (.isub, 1) := by decide +kernel
theorem dX3_headsAlike_26 : decode cX3_headsAlike 26 = .ok (.istore 6, 2) := by decide +kernel
theorem dX3_headsAlike_28 : decode cX3_headsAlike 28 = .ok (.aload_n 0, 1) := by decide +kernel
theorem dX3_headsAlike_29 : decode cX3_headsAlike 29 = .ok (.iload_n 1, 1) := by decide +kernel
theorem dX3_headsAlike_30 : decode cX3_headsAlike 30 = .ok (.iconst 2, 1) := by decide +kernel
theorem dX3_headsAlike_31 : decode cX3_headsAlike 31 = .ok (.invokevirtual 52, 3) := by decide +kernel
theorem dX3_headsAlike_34 : decode cX3_headsAlike 34 = .ok (.aload_n 2, 1) := by decide +kernel
theorem dX3_headsAlike_35 : decode cX3_headsAlike 35 = .ok (.iload_n 3, 1) := by decide +kernel
theorem dX3_headsAlike_36 : decode cX3_headsAlike 36 = .ok (.iconst 2, 1) := by decide +kernel
theorem dX3_headsAlike_37 : decode cX3_headsAlike 37 = .ok (.invokevirtual 52, 3) := by decide +kernel
theorem dX3_headsAlike_40 : decode cX3_headsAlike 40 = .ok (.if_icmp .ne 58, 3) := by decide +kernel
theorem dX3_headsAlike_43 : decode cX3_headsAlike 43 = .ok (.aload_n 0, 1) := by decide +kernel
theorem dX3_headsAlike_44 : decode cX3_headsAlike 44 = .ok (.iload_n 1, 1) := by decide +kernel
theorem dX3_headsAlike_45 : decode cX3_headsAlike 45 = .ok (.bipush 8, 2) := by decide +kernel
theorem dX3_headsAlike_47 : decode cX3_headsAlike 47 = .ok (.invokevirtual 52, 3) := by decide +kernel
theorem dX3_headsAlike_50 : decode cX3_headsAlike 50 = .ok (.aload_n 2, 1) := by decide +kernel
theorem dX3_headsAlike_51 : decode cX3_headsAlike 51 = .ok (.iload_n 3, 1) := by decide +kernel
theorem dX3_headsAlike_52 : decode cX3_headsAlike 52 = .ok (.bipush 8, 2) := by decide +kernel
theorem dX3_headsAlike_54 : decode cX3_headsAlike 54 = .ok (.invokevirtual 52, 3) := by decide +kernel
theorem dX3_headsAlike_57 : decode cX3_headsAlike 57 = .ok (.if_icmp .ne 41, 3) := by decide +kernel
theorem dX3_headsAlike_60 : decode cX3_headsAlike 60 = .ok (.aload_n 0, 1) := by decide +kernel
theorem dX3_headsAlike_61 : decode cX3_headsAlike 61 = .ok (.iload_n 1, 1) := by decide +kernel
theorem dX3_headsAlike_62 : decode cX3_headsAlike 62 = .ok (.bipush 6, 2) := by decide +kernel
theorem dX3_headsAlike_64 : decode cX3_headsAlike 64 = .ok (.invokevirtual 52, 3) := by decide +kernel
theorem dX3_headsAlike_67 : decode cX3_headsAlike 67 = .ok (.iload 4, 2) := by decide +kernel
theorem dX3_headsAlike_69 : decode cX3_headsAlike 69 = .ok (.isub, 1) := by decide +kernel
theorem dX3_headsAlike_70 : decode cX3_headsAlike 70 = .ok (.aload_n 2, 1) := by decide +kernel
theorem dX3_headsAlike_71 : decode cX3_headsAlike 71 = .ok (.iload_n 3, 1) := by decide +kernel
theorem dX3_headsAlike_72 : decode cX3_headsAlike 72 = .ok (.bipush 6, 2) := by decide +kernel
theorem dX3_headsAlike_74 : decode cX3_headsAlike 74 = .ok (.invokevirtual 52, 3) := by decide +kernel
theorem dX3_headsAlike_77 : decode cX3_headsAlike 77 = .ok (.iload 5, 2) := by decide +kernel
theorem dX3_headsAlike_79 : decode cX3_headsAlike 79 = .ok (.isub, 1) := by decide +kernel
theorem dX3_headsAlike_80 : decode cX3_headsAlike 80 = .ok (.if_icmp .ne 18, 3) := by decide +kernel
theorem dX3_headsAlike_83 : decode cX3_headsAlike 83 = .ok (.iload 6, 2) := by decide +kernel
theorem dX3_headsAlike_85 : decode cX3_headsAlike 85 = .ok (.aload_n 2, 1) := by decide +kernel
theorem dX3_headsAlike_86 : decode cX3_headsAlike 86 = .ok (.iload_n 3, 1) := by decide +kernel
theorem dX3_headsAlike_87 : decode cX3_headsAlike 87 = .ok (.bipush 7, 2) := by decide +kernel
theorem dX3_headsAlike_89 : decode cX3_headsAlike 89 = .ok (.invokevirtual 52, 3) := by decide +kernel
theorem dX3_headsAlike_92 : decode cX3_headsAlike 92 = .ok (.iload 5, 2) := by decide +kernel
theorem dX3_headsAlike_94 : decode cX3_headsAlike 94 = .ok (.isub, 1) := by decide +kernel
theorem dX3_headsAlike_95 : decode cX3_headsAlike 95 = .ok (.if_icmp .eq 5, 3) := by decide +kernel
theorem dX3_headsAlike_98 : decode cX3_headsAlike 98 = .ok (.iconst 0, 1) := by decide +kernel
theorem dX3_headsAlike_99 : decode cX3_headsAlike 99 = .ok (.ireturn, 1) := by decide +kernel
theorem dX3_headsAlike_100 : decode cX3_headsAlike 100 = .ok (.iconst 0, 1) := by decide +kernel
theorem dX3_headsAlike_101 : decode cX3_headsAlike 101 = .ok (.istore 7, 2) := by decide +kernel
theorem dX3_headsAlike_103 : decode cX3_headsAlike 103 = .ok (.iload 7, 2) := by decide +kernel
theorem dX3_headsAlike_105 : decode cX3_headsAlike 105 = .ok (.iload 6, 2) := by decide +kernel
theorem dX3_headsAlike_107 : decode cX3_headsAlike 107 = .ok (.if_icmp .ge 53, 3) := by decide +kernel
theorem dX3_headsAlike_110 : decode cX3_headsAlike 110 = .ok (.aload_n 0, 1) := by decide +kernel
theorem dX3_headsAlike_111 : decode cX3_headsAlike 111 = .ok (.iload 4, 2) := by decide +kernel
theorem dX3_headsAlike_113 : decode cX3_headsAlike 113 = .ok (.iload 7, 2) := by decide +kernel
theorem dX3_headsAlike_115 : decode cX3_headsAlike 115 = .ok (.iadd, 1) := by decide +kernel
theorem dX3_headsAlike_116 : decode cX3_headsAlike 116 = .ok (.invokevirtual 94, 3) := by decide +kernel
theorem dX3_headsAlike_119 : decode cX3_headsAlike 119 = .ok (.aload_n 2, 1) := by decide +kernel
theorem dX3_headsAlike_120 : decode cX3_headsAlike 120 = .ok (.iload 5, 2) := by decide +kernel
theorem dX3_headsAlike_122 : decode cX3_headsAlike 122 = .ok (.iload 7, 2) := by decide +kernel
theorem dX3_headsAlike_124 : decode cX3_headsAlike 124 = .ok (.iadd, 1) := by decide +kernel
theorem dX3_headsAlike_125 : decode cX3_headsAlike 125 = .ok (.invokevirtual 94, 3) := by decide +kernel
theorem dX3_headsAlike_128 : decode cX3_headsAlike 128 = .ok (.if_icmp .ne 24, 3) := by decide +kernel
theorem dX3_headsAlike_131 : decode cX3_headsAlike 131 = .ok (.aload_n 0, 1) := by decide +kernel
theorem dX3_headsAlike_132 : decode cX3_headsAlike 132 = .ok (.iload 4, 2) := by decide +kernel
theorem dX3_headsAlike_134 : decode cX3_headsAlike 134 = .ok (.iload 7, 2) := by decide +kernel
theorem dX3_headsAlike_136 : decode cX3_headsAlike 136 = .ok (.iadd, 1) := by decide +kernel
theorem dX3_headsAlike_137 : decode cX3_headsAlike 137 = .ok (.invokevirtual 65, 3) := by decide +kernel
theorem dX3_headsAlike_140 : decode cX3_headsAlike 140 = .ok (.aload_n 2, 1) := by decide +kernel
theorem dX3_headsAlike_141 : decode cX3_headsAlike 141 = .ok (.iload 5, 2) := by decide +kernel
theorem dX3_headsAlike_143 : decode cX3_headsAlike 143 = .ok (.iload 7, 2) := by decide +kernel
theorem dX3_headsAlike_145 : decode cX3_headsAlike 145 = .ok (.iadd, 1) := by decide +kernel
theorem dX3_headsAlike_146 : decode cX3_headsAlike 146 = .ok (.invokevirtual 65, 3) := by decide +kernel
theorem dX3_headsAlike_149 : decode cX3_headsAlike 149 = .ok (.if_icmp .eq 5, 3) := by decide +kernel
theorem dX3_headsAlike_152 : decode cX3_headsAlike 152 = .ok (.iconst 0, 1) := by decide +kernel
theorem dX3_headsAlike_153 : decode cX3_headsAlike 153 = .ok (.ireturn, 1) := by decide +kernel
theorem dX3_headsAlike_154 : decode cX3_headsAlike 154 = .ok (.iinc 7 1, 3) := by decide +kernel
theorem dX3_headsAlike_157 : decode cX3_headsAlike 157 = .ok (.goto (-54), 3) := by decide +kernel
theorem dX3_headsAlike_160 : decode cX3_headsAlike 160 = .ok (.iconst 1, 1) := by decide +kernel
theorem dX3_headsAlike_161 : decode cX3_headsAlike 161 = .ok (.ireturn, 1) := by decide +kernel
theorem dX4_init_0 : decode cX4_init 0 = .ok (.aload_n 0, 1) := by decide +kernel
theorem dX4_init_1 : decode cX4_init 1 = .ok (.invokespecial 3, 3) := by decide +kernel
theorem dX4_init_4 : decode cX4_init 4 = .ok (.aload_n 0, 1) := by decide +kernel
theorem dX4_init_5 : decode cX4_init 5 = .ok (.bipush 96, 2) := by decide +kernel
theorem dX4_init_7 : decode cX4_init 7 = .ok (.newarray .int, 2) := by decide +kernel
theorem dX4_init_9 : decode cX4_init 9 = .ok (.putfield 9, 3) := by decide +kernel
theorem dX4_init_12 : decode cX4_init 12 = .ok (.aload_n 0, 1) := by decide +kernel
theorem dX4_init_13 : decode cX4_init 13 = .ok (.bipush 8, 2) := by decide +kernel
theorem dX4_init_15 : decode cX4_init 15 = .ok (.newarray .long, 2) := by decide +kernel
theorem dX4_init_17 : decode cX4_init 17 = .ok (.putfield 15, 3) := by decide +kernel
theorem dX4_init_20 : decode cX4_init 20 = .ok (.aload_n 0, 1) := by decide +kernel
theorem dX4_init_21 : decode cX4_init 21 = .ok (.bipush 8, 2) := by decide +kernel
theorem dX4_init_23 : decode cX4_init 23 = .ok (.newarray .long, 2) := by decide +kernel
theorem dX4_init_25 : decode cX4_init 25 = .ok (.putfield 19, 3) := by decide +kernel
theorem dX4_init_28 : decode cX4_init 28 = .ok (.aload_n 0, 1) := by decide +kernel
theorem dX4_init_29 : decode cX4_init 29 = .ok (.bipush 8, 2) := by decide +kernel
theorem dX4_init_31 : decode cX4_init 31 = .ok (.newarray .int, 2) := by decide +kernel
theorem dX4_init_33 : decode cX4_init 33 = .ok (.putfield 22, 3) := by decide +kernel
theorem dX4_init_36 : decode cX4_init 36 = .ok (.aload_n 0, 1) := by decide +kernel
theorem dX4_init_37 : decode cX4_init 37 = .ok (.bipush 8, 2) := by decide +kernel
theorem dX4_init_39 : decode cX4_init 39 = .ok (.newarray .int, 2) := by decide +kernel
theorem dX4_init_41 : decode cX4_init 41 = .ok (.putfield 25, 3) := by decide +kernel
theorem dX4_init_44 : decode cX4_init 44 = .ok (.aload_n 0, 1) := by decide +kernel
theorem dX4_init_45 : decode cX4_init 45 = .ok (.bipush 8, 2) := by decide +kernel
theorem dX4_init_47 : decode cX4_init 47 = .ok (.newarray .long, 2) := by decide +kernel
theorem dX4_init_49 : decode cX4_init 49 = .ok (.putfield 28, 3) := by decide +kernel
theorem dX4_init_52 : decode cX4_init 52 = .ok (.aload_n 0, 1) := by decide +kernel
theorem dX4_init_53 : decode cX4_init 53 = .ok (.iconst (-1), 1) := by decide +kernel
theorem dX4_init_54 : decode cX4_init 54 = .ok (.putfield 31, 3) := by decide +kernel
theorem dX4_init_57 : decode cX4_init 57 = .ok (.return_, 1) := by decide +kernel
theorem dX4_size_0 : decode cX4_size 0 = .ok (.aload_n 0, 1) := by decide +kernel
theorem dX4_size_1 : decode cX4_size 1 = .ok (.getfield 35, 3) := by decide +kernel
theorem dX4_size_4 : decode cX4_size 4 = .ok (.ireturn, 1) := by decide +kernel
theorem dX4_pay_0 : decode cX4_pay 0 = .ok (.iload_n 3, 1) := by decide +kernel
theorem dX4_pay_1 : decode cX4_pay 1 = .ok (.ifCond .ne 4, 3) := by decide +kernel
theorem dX4_pay_4 : decode cX4_pay 4 = .ok (.return_, 1) := by decide +kernel
theorem dX4_pay_5 : decode cX4_pay 5 = .ok (.aload_n 0, 1) := by decide +kernel
theorem dX4_pay_6 : decode cX4_pay 6 = .ok (.getfield 35, 3) := by decide +kernel
theorem dX4_pay_9 : decode cX4_pay 9 = .ok (.sipush 2000, 3) := by decide +kernel
theorem dX4_pay_12 : decode cX4_pay 12 = .ok (.if_icmp .lt 14, 3) := by decide +kernel
theorem dX4_pay_15 : decode cX4_pay 15 = .ok (.aload_n 0, 1) := by decide +kernel
theorem dX4_pay_16 : decode cX4_pay 16 = .ok (.dup, 1) := by decide +kernel
theorem dX4_pay_17 : decode cX4_pay 17 = .ok (.getfield 38, 3) := by decide +kernel
theorem dX4_pay_20 : decode cX4_pay 20 = .ok (.iconst 1, 1) := by decide +kernel
theorem dX4_pay_21 : decode cX4_pay 21 = .ok (.iadd, 1) := by decide +kernel
theorem dX4_pay_22 : decode cX4_pay 22 = .ok (.putfield 38, 3) := by decide +kernel
theorem dX4_pay_25 : decode cX4_pay 25 = .ok (.return_, 1) := by decide +kernel
theorem dX4_pay_26 : decode cX4_pay 26 = .ok (.aload_n 0, 1) := by decide +kernel
theorem dX4_pay_27 : decode cX4_pay 27 = .ok (.invokevirtual 41, 3) := by decide +kernel
theorem dX4_pay_30 : decode cX4_pay 30 = .ok (.aload_n 0, 1) := by decide +kernel
theorem dX4_pay_31 : decode cX4_pay 31 = .ok (.dup, 1) := by decide +kernel
theorem dX4_pay_32 : decode cX4_pay 32 = .ok (.getfield 35, 3) := by decide +kernel
theorem dX4_pay_35 : decode cX4_pay 35 = .ok (.iconst 1, 1) := by decide +kernel
theorem dX4_pay_36 : decode cX4_pay 36 = .ok (.iadd, 1) := by decide +kernel
theorem dX4_pay_37 : decode cX4_pay 37 = .ok (.putfield 35, 3) := by decide +kernel
theorem dX4_pay_40 : decode cX4_pay 40 = .ok (.aload_n 0, 1) := by decide +kernel
theorem dX4_pay_41 : decode cX4_pay 41 = .ok (.getfield 35, 3) := by decide +kernel
theorem dX4_pay_44 : decode cX4_pay 44 = .ok (.iconst 1, 1) := by decide +kernel
theorem dX4_pay_45 : decode cX4_pay 45 = .ok (.isub, 1) := by decide +kernel
theorem dX4_pay_46 : decode cX4_pay 46 = .ok (.istore 5, 2) := by decide +kernel
theorem dX4_pay_48 : decode cX4_pay 48 = .ok (.aload_n 0, 1) := by decide +kernel
theorem dX4_pay_49 : decode cX4_pay 49 = .ok (.iload 5, 2) := by decide +kernel
theorem dX4_pay_51 : decode cX4_pay 51 = .ok (.iconst 0, 1) := by decide +kernel
theorem dX4_pay_52 : decode cX4_pay 52 = .ok (.aload_n 1, 1) := by decide +kernel
theorem dX4_pay_53 : decode cX4_pay 53 = .ok (.getfield 44, 3) := by decide +kernel
theorem dX4_pay_56 : decode cX4_pay 56 = .ok (.invokevirtual 49, 3) := by decide +kernel
theorem dX4_pay_59 : decode cX4_pay 59 = .ok (.aload_n 0, 1) := by decide +kernel
theorem dX4_pay_60 : decode cX4_pay 60 = .ok (.iload 5, 2) := by decide +kernel
theorem dX4_pay_62 : decode cX4_pay 62 = .ok (.iconst 1, 1) := by decide +kernel
theorem dX4_pay_63 : decode cX4_pay 63 = .ok (.iload_n 2, 1) := by decide +kernel
theorem dX4_pay_64 : decode cX4_pay 64 = .ok (.invokevirtual 49, 3) := by decide +kernel
theorem dX4_pay_67 : decode cX4_pay 67 = .ok (.aload_n 0, 1) := by decide +kernel
theorem dX4_pay_68 : decode cX4_pay 68 = .ok (.iload 5, 2) := by decide +kernel
theorem dX4_pay_70 : decode cX4_pay 70 = .ok (.iconst 2, 1) := by decide +kernel
theorem dX4_pay_71 : decode cX4_pay 71 = .ok (.iload_n 3, 1) := by decide +kernel
theorem dX4_pay_72 : decode cX4_pay 72 = .ok (.invokevirtual 49, 3) := by decide +kernel
theorem dX4_pay_75 : decode cX4_pay 75 = .ok (.aload_n 0, 1) := by decide +kernel
theorem dX4_pay_76 : decode cX4_pay 76 = .ok (.iload 5, 2) := by decide +kernel
theorem dX4_pay_78 : decode cX4_pay 78 = .ok (.iconst 3, 1) := by decide +kernel
theorem dX4_pay_79 : decode cX4_pay 79 = .ok (.iload 4, 2) := by decide +kernel
theorem dX4_pay_81 : decode cX4_pay 81 = .ok (.invokevirtual 49, 3) := by decide +kernel
theorem dX4_pay_84 : decode cX4_pay 84 = .ok (.aload_n 0, 1) := by decide +kernel
theorem dX4_pay_85 : decode cX4_pay 85 = .ok (.iload 5, 2) := by decide +kernel
theorem dX4_pay_87 : decode cX4_pay 87 = .ok (.iconst 4, 1) := by decide +kernel
theorem dX4_pay_88 : decode cX4_pay 88 = .ok (.aload_n 1, 1) := by decide +kernel
theorem dX4_pay_89 : decode cX4_pay 89 = .ok (.getfield 53, 3) := by decide +kernel
theorem dX4_pay_92 : decode cX4_pay 92 = .ok (.invokevirtual 49, 3) := by decide +kernel
theorem dX4_pay_95 : decode cX4_pay 95 = .ok (.aload_n 0, 1) := by decide +kernel
theorem dX4_pay_96 : decode cX4_pay 96 = .ok (.iload 5, 2) := by decide +kernel
theorem dX4_pay_98 : decode cX4_pay 98 = .ok (.iconst 5, 1) := by decide +kernel
theorem dX4_pay_99 : decode cX4_pay 99 = .ok (.aload_n 1, 1) := by decide +kernel
theorem dX4_pay_100 : decode cX4_pay 100 = .ok (.getfield 56, 3) := by decide +kernel
theorem dX4_pay_103 : decode cX4_pay 103 = .ok (.invokevirtual 49, 3) := by decide +kernel
theorem dX4_pay_106 : decode cX4_pay 106 = .ok (.aload_n 1, 1) := by decide +kernel
theorem dX4_pay_107 : decode cX4_pay 107 = .ok (.dup, 1) := by decide +kernel
theorem dX4_pay_108 : decode cX4_pay 108 = .ok (.getfield 59, 3) := by decide +kernel
theorem dX4_pay_111 : decode cX4_pay 111 = .ok (.iload_n 3, 1) := by decide +kernel
theorem dX4_pay_112 : decode cX4_pay 112 = .ok (.i2l, 1) := by decide +kernel
theorem dX4_pay_113 : decode cX4_pay 113 = .ok (.ladd, 1) := by decide +kernel
theorem dX4_pay_114 : decode cX4_pay 114 = .ok (.putfield 59, 3) := by decide +kernel
theorem dX4_pay_117 : decode cX4_pay 117 = .ok (.return_, 1) := by decide +kernel
theorem dX4_makeRoom_0 : decode cX4_makeRoom 0 = .ok (.aload_n 0, 1) := by decide +kernel
theorem dX4_makeRoom_1 : decode cX4_makeRoom 1 = .ok (.getfield 35, 3) := by decide +kernel
theorem dX4_makeRoom_4 : decode cX4_makeRoom 4 = .ok (.iconst 1, 1) := by decide +kernel
theorem dX4_makeRoom_5 : decode cX4_makeRoom 5 = .ok (.iadd, 1) := by decide +kernel
theorem dX4_makeRoom_6 : decode cX4_makeRoom 6 = .ok (.bipush 6, 2) := by decide +kernel
theorem dX4_makeRoom_8 : decode cX4_makeRoom 8 = .ok (.imul, 1) := by decide +kernel
theorem dX4_makeRoom_9 : decode cX4_makeRoom 9 = .ok (.aload_n 0, 1) := by decide +kernel
theorem dX4_makeRoom_10 : decode cX4_makeRoom 10 = .ok (.getfield 9, 3) := by decide +kernel
theorem dX4_makeRoom_13 : decode cX4_makeRoom 13 = .ok (.arraylength, 1) := by decide +kernel
theorem dX4_makeRoom_14 : decode cX4_makeRoom 14 = .ok (.if_icmp .gt 4, 3) := by decide +kernel
theorem dX4_makeRoom_17 : decode cX4_makeRoom 17 = .ok (.return_, 1) := by decide +kernel
theorem dX4_makeRoom_18 : decode cX4_makeRoom 18 = .ok (.aload_n 0, 1) := by decide +kernel
theorem dX4_makeRoom_19 : decode cX4_makeRoom 19 = .ok (.getfield 35, 3) := by decide +kernel
theorem dX4_makeRoom_22 : decode cX4_makeRoom 22 = .ok (.iconst 1, 1) := by decide +kernel
theorem dX4_makeRoom_23 : decode cX4_makeRoom 23 = .ok (.iadd, 1) := by decide +kernel
theorem dX4_makeRoom_24 : decode cX4_makeRoom 24 = .ok (.iconst 2, 1) := by decide +kernel
theorem dX4_makeRoom_25 : decode cX4_makeRoom 25 = .ok (.imul, 1) := by decide +kernel
theorem dX4_makeRoom_26 : decode cX4_makeRoom 26 = .ok (.iconst 1, 1) := by decide +kernel
theorem dX4_makeRoom_27 : decode cX4_makeRoom 27 = .ok (.invokestatic 63, 3) := by decide +kernel
theorem dX4_makeRoom_30 : decode cX4_makeRoom 30 = .ok (.bipush 6, 2) := by decide +kernel
theorem dX4_makeRoom_32 : decode cX4_makeRoom 32 = .ok (.imul, 1) := by decide +kernel
theorem dX4_makeRoom_33 : decode cX4_makeRoom 33 = .ok (.newarray .int, 2) := by decide +kernel
theorem dX4_makeRoom_35 : decode cX4_makeRoom 35 = .ok (.astore_n 1, 1) := by decide +kernel
theorem dX4_makeRoom_36 : decode cX4_makeRoom 36 = .ok (.iconst 0, 1) := by decide +kernel
theorem dX4_makeRoom_37 : decode cX4_makeRoom 37 = .ok (.istore_n 2, 1) := by decide +kernel
theorem dX4_makeRoom_38 : decode cX4_makeRoom 38 = .ok (.iload_n 2, 1) := by decide +kernel
theorem dX4_makeRoom_39 : decode cX4_makeRoom 39 = .ok (.aload_n 0, 1) := by decide +kernel
theorem dX4_makeRoom_40 : decode cX4_makeRoom 40 = .ok (.getfield 9, 3) := by decide +kernel
theorem dX4_makeRoom_43 : decode cX4_makeRoom 43 = .ok (.arraylength, 1) := by decide +kernel
theorem dX4_makeRoom_44 : decode cX4_makeRoom 44 = .ok (.if_icmp .ge 24, 3) := by decide +kernel
theorem dX4_makeRoom_47 : decode cX4_makeRoom 47 = .ok (.iload_n 2, 1) := by decide +kernel
theorem dX4_makeRoom_48 : decode cX4_makeRoom 48 = .ok (.aload_n 1, 1) := by decide +kernel
theorem dX4_makeRoom_49 : decode cX4_makeRoom 49 = .ok (.arraylength, 1) := by decide +kernel
theorem dX4_makeRoom_50 : decode cX4_makeRoom 50 = .ok (.if_icmp .ge 18, 3) := by decide +kernel
theorem dX4_makeRoom_53 : decode cX4_makeRoom 53 = .ok (.aload_n 1, 1) := by decide +kernel
theorem dX4_makeRoom_54 : decode cX4_makeRoom 54 = .ok (.iload_n 2, 1) := by decide +kernel
theorem dX4_makeRoom_55 : decode cX4_makeRoom 55 = .ok (.aload_n 0, 1) := by decide +kernel
theorem dX4_makeRoom_56 : decode cX4_makeRoom 56 = .ok (.getfield 9, 3) := by decide +kernel
theorem dX4_makeRoom_59 : decode cX4_makeRoom 59 = .ok (.iload_n 2, 1) := by decide +kernel
theorem dX4_makeRoom_60 : decode cX4_makeRoom 60 = .ok (.iaload, 1) := by decide +kernel
theorem dX4_makeRoom_61 : decode cX4_makeRoom 61 = .ok (.iastore, 1) := by decide +kernel
theorem dX4_makeRoom_62 : decode cX4_makeRoom 62 = .ok (.iinc 2 1, 3) := by decide +kernel
theorem dX4_makeRoom_65 : decode cX4_makeRoom 65 = .ok (.goto (-27), 3) := by decide +kernel
theorem dX4_makeRoom_68 : decode cX4_makeRoom 68 = .ok (.aload_n 0, 1) := by decide +kernel
theorem dX4_makeRoom_69 : decode cX4_makeRoom 69 = .ok (.aload_n 1, 1) := by decide +kernel
theorem dX4_makeRoom_70 : decode cX4_makeRoom 70 = .ok (.putfield 9, 3) := by decide +kernel
theorem dX4_makeRoom_73 : decode cX4_makeRoom 73 = .ok (.return_, 1) := by decide +kernel
theorem dX4_set_0 : decode cX4_set 0 = .ok (.iload_n 1, 1) := by decide +kernel
theorem dX4_set_1 : decode cX4_set 1 = .ok (.bipush 6, 2) := by decide +kernel
theorem dX4_set_3 : decode cX4_set 3 = .ok (.imul, 1) := by decide +kernel
theorem dX4_set_4 : decode cX4_set 4 = .ok (.iload_n 2, 1) := by decide +kernel
theorem dX4_set_5 : decode cX4_set 5 = .ok (.iadd, 1) := by decide +kernel
theorem dX4_set_6 : decode cX4_set 6 = .ok (.istore 4, 2) := by decide +kernel
theorem dX4_set_8 : decode cX4_set 8 = .ok (.iload 4, 2) := by decide +kernel
theorem dX4_set_10 : decode cX4_set 10 = .ok (.ifCond .lt 21, 3) := by decide +kernel
theorem dX4_set_13 : decode cX4_set 13 = .ok (.iload 4, 2) := by decide +kernel
theorem dX4_set_15 : decode cX4_set 15 = .ok (.aload_n 0, 1) := by decide +kernel
theorem dX4_set_16 : decode cX4_set 16 = .ok (.getfield 9, 3) := by decide +kernel
theorem dX4_set_19 : decode cX4_set 19 = .ok (.arraylength, 1) := by decide +kernel
theorem dX4_set_20 : decode cX4_set 20 = .ok (.if_icmp .ge 11, 3) := by decide +kernel
theorem dX4_set_23 : decode cX4_set 23 = .ok (.aload_n 0, 1) := by decide +kernel
theorem dX4_set_24 : decode cX4_set 24 = .ok (.getfield 9, 3) := by decide +kernel
theorem dX4_set_27 : decode cX4_set 27 = .ok (.iload 4, 2) := by decide +kernel
theorem dX4_set_29 : decode cX4_set 29 = .ok (.iload_n 3, 1) := by decide +kernel
theorem dX4_set_30 : decode cX4_set 30 = .ok (.iastore, 1) := by decide +kernel
theorem dX4_set_31 : decode cX4_set 31 = .ok (.return_, 1) := by decide +kernel
theorem dX4_entry_0 : decode cX4_entry 0 = .ok (.iload_n 1, 1) := by decide +kernel
theorem dX4_entry_1 : decode cX4_entry 1 = .ok (.ifCond .lt 21, 3) := by decide +kernel
theorem dX4_entry_4 : decode cX4_entry 4 = .ok (.iload_n 1, 1) := by decide +kernel
theorem dX4_entry_5 : decode cX4_entry 5 = .ok (.aload_n 0, 1) := by decide +kernel
theorem dX4_entry_6 : decode cX4_entry 6 = .ok (.getfield 35, 3) := by decide +kernel
theorem dX4_entry_9 : decode cX4_entry 9 = .ok (.if_icmp .ge 13, 3) := by decide +kernel
theorem dX4_entry_12 : decode cX4_entry 12 = .ok (.iload_n 2, 1) := by decide +kernel
theorem dX4_entry_13 : decode cX4_entry 13 = .ok (.ifCond .lt 9, 3) := by decide +kernel
theorem dX4_entry_16 : decode cX4_entry 16 = .ok (.iload_n 2, 1) := by decide +kernel
theorem dX4_entry_17 : decode cX4_entry 17 = .ok (.bipush 6, 2) := by decide +kernel
theorem dX4_entry_19 : decode cX4_entry 19 = .ok (.if_icmp .lt 6, 3) := by decide +kernel
theorem dX4_entry_22 : decode cX4_entry 22 = .ok (.ldc 69, 2) := by decide +kernel
theorem dX4_entry_24 : decode cX4_entry 24 = .ok (.ireturn, 1) := by decide +kernel
theorem dX4_entry_25 : decode cX4_entry 25 = .ok (.iload_n 1, 1) := by decide +kernel
theorem dX4_entry_26 : decode cX4_entry 26 = .ok (.bipush 6, 2) := by decide +kernel
theorem dX4_entry_28 : decode cX4_entry 28 = .ok (.imul, 1) := by decide +kernel
theorem dX4_entry_29 : decode cX4_entry 29 = .ok (.iload_n 2, 1) := by decide +kernel
theorem dX4_entry_30 : decode cX4_entry 30 = .ok (.iadd, 1) := by decide +kernel
theorem dX4_entry_31 : decode cX4_entry 31 = .ok (.istore_n 3, 1) := by decide +kernel
theorem dX4_entry_32 : decode cX4_entry 32 = .ok (.iload_n 3, 1) := by decide +kernel
theorem dX4_entry_33 : decode cX4_entry 33 = .ok (.aload_n 0, 1) := by decide +kernel
theorem dX4_entry_34 : decode cX4_entry 34 = .ok (.getfield 9, 3) := by decide +kernel
theorem dX4_entry_37 : decode cX4_entry 37 = .ok (.arraylength, 1) := by decide +kernel
theorem dX4_entry_38 : decode cX4_entry 38 = .ok (.if_icmp .ge 12, 3) := by decide +kernel
theorem dX4_entry_41 : decode cX4_entry 41 = .ok (.aload_n 0, 1) := by decide +kernel
theorem dX4_entry_42 : decode cX4_entry 42 = .ok (.getfield 9, 3) := by decide +kernel
theorem dX4_entry_45 : decode cX4_entry 45 = .ok (.iload_n 3, 1) := by decide +kernel
theorem dX4_entry_46 : decode cX4_entry 46 = .ok (.iaload, 1) := by decide +kernel
theorem dX4_entry_47 : decode cX4_entry 47 = .ok (.goto 5, 3) := by decide +kernel
theorem dX4_entry_50 : decode cX4_entry 50 = .ok (.ldc 69, 2) := by decide +kernel
theorem dX4_entry_52 : decode cX4_entry 52 = .ok (.ireturn, 1) := by decide +kernel
theorem dX4_settle_0 : decode cX4_settle 0 = .ok (.iconst 0, 1) := by decide +kernel
theorem dX4_settle_1 : decode cX4_settle 1 = .ok (.istore_n 2, 1) := by decide +kernel
theorem dX4_settle_2 : decode cX4_settle 2 = .ok (.iload_n 2, 1) := by decide +kernel
theorem dX4_settle_3 : decode cX4_settle 3 = .ok (.bipush 8, 2) := by decide +kernel
theorem dX4_settle_5 : decode cX4_settle 5 = .ok (.if_icmp .ge 16, 3) := by decide +kernel
theorem dX4_settle_8 : decode cX4_settle 8 = .ok (.aload_n 0, 1) := by decide +kernel
theorem dX4_settle_9 : decode cX4_settle 9 = .ok (.getfield 15, 3) := by decide +kernel
theorem dX4_settle_12 : decode cX4_settle 12 = .ok (.iload_n 2, 1) := by decide +kernel
theorem dX4_settle_13 : decode cX4_settle 13 = .ok (.lconst 0, 1) := by decide +kernel
theorem dX4_settle_14 : decode cX4_settle 14 = .ok (.lastore, 1) := by decide +kernel
theorem dX4_settle_15 : decode cX4_settle 15 = .ok (.iinc 2 1, 3) := by decide +kernel
theorem dX4_settle_18 : decode cX4_settle 18 = .ok (.goto (-16), 3) := by decide +kernel
theorem dX4_settle_21 : decode cX4_settle 21 = .ok (.iconst 0, 1) := by decide +kernel
theorem dX4_settle_22 : decode cX4_settle 22 = .ok (.istore_n 2, 1) := by decide +kernel
theorem dX4_settle_23 : decode cX4_settle 23 = .ok (.iload_n 2, 1) := by decide +kernel
theorem dX4_settle_24 : decode cX4_settle 24 = .ok (.aload_n 0, 1) := by decide +kernel
theorem dX4_settle_25 : decode cX4_settle 25 = .ok (.getfield 35, 3) := by decide +kernel
theorem dX4_settle_28 : decode cX4_settle 28 = .ok (.if_icmp .ge 52, 3) := by decide +kernel
theorem dX4_settle_31 : decode cX4_settle 31 = .ok (.aload_n 0, 1) := by decide +kernel
theorem dX4_settle_32 : decode cX4_settle 32 = .ok (.iload_n 2, 1) := by decide +kernel
theorem dX4_settle_33 : decode cX4_settle 33 = .ok (.iconst 1, 1) := by decide +kernel
theorem dX4_settle_34 : decode cX4_settle 34 = .ok (.invokevirtual 70, 3) := by decide +kernel
theorem dX4_settle_37 : decode cX4_settle 37 = .ok (.iload_n 1, 1) := by decide +kernel
theorem dX4_settle_38 : decode cX4_settle 38 = .ok (.if_icmp .ne 36, 3) := by decide +kernel
theorem dX4_settle_41 : decode cX4_settle 41 = .ok (.aload_n 0, 1) := by decide +kernel
theorem dX4_settle_42 : decode cX4_settle 42 = .ok (.aload_n 0, 1) := by decide +kernel
theorem dX4_settle_43 : decode cX4_settle 43 = .ok (.iload_n 2, 1) := by decide +kernel
theorem dX4_settle_44 : decode cX4_settle 44 = .ok (.iconst 4, 1) := by decide +kernel
theorem dX4_settle_45 : decode cX4_settle 45 = .ok (.invokevirtual 70, 3) := by decide +kernel
theorem dX4_settle_48 : decode cX4_settle 48 = .ok (.aload_n 0, 1) := by decide +kernel
theorem dX4_settle_49 : decode cX4_settle 49 = .ok (.iload_n 2, 1) := by decide +kernel
theorem dX4_settle_50 : decode cX4_settle 50 = .ok (.iconst 2, 1) := by decide +kernel
theorem dX4_settle_51 : decode cX4_settle 51 = .ok (.invokevirtual 70, 3) := by decide +kernel
theorem dX4_settle_54 : decode cX4_settle 54 = .ok (.invokevirtual 73, 3) := by decide +kernel
theorem dX4_settle_57 : decode cX4_settle 57 = .ok (.aload_n 0, 1) := by decide +kernel
theorem dX4_settle_58 : decode cX4_settle 58 = .ok (.aload_n 0, 1) := by decide +kernel
theorem dX4_settle_59 : decode cX4_settle 59 = .ok (.iload_n 2, 1) := by decide +kernel
theorem dX4_settle_60 : decode cX4_settle 60 = .ok (.iconst 5, 1) := by decide +kernel
theorem dX4_settle_61 : decode cX4_settle 61 = .ok (.invokevirtual 70, 3) := by decide +kernel
theorem dX4_settle_64 : decode cX4_settle 64 = .ok (.aload_n 0, 1) := by decide +kernel
theorem dX4_settle_65 : decode cX4_settle 65 = .ok (.iload_n 2, 1) := by decide +kernel
theorem dX4_settle_66 : decode cX4_settle 66 = .ok (.iconst 2, 1) := by decide +kernel
theorem dX4_settle_67 : decode cX4_settle 67 = .ok (.invokevirtual 70, 3) := by decide +kernel
theorem dX4_settle_70 : decode cX4_settle 70 = .ok (.ineg, 1) := by decide +kernel
theorem dX4_settle_71 : decode cX4_settle 71 = .ok (.invokevirtual 73, 3) := by decide +kernel
theorem dX4_settle_74 : decode cX4_settle 74 = .ok (.iinc 2 1, 3) := by decide +kernel
theorem dX4_settle_77 : decode cX4_settle 77 = .ok (.goto (-54), 3) := by decide +kernel
theorem dX4_settle_80 : decode cX4_settle 80 = .ok (.iconst 0, 1) := by decide +kernel
theorem dX4_settle_81 : decode cX4_settle 81 = .ok (.istore_n 2, 1) := by decide +kernel
theorem dX4_settle_82 : decode cX4_settle 82 = .ok (.iload_n 2, 1) := by decide +kernel
theorem dX4_settle_83 : decode cX4_settle 83 = .ok (.bipush 8, 2) := by decide +kernel
theorem dX4_settle_85 : decode cX4_settle 85 = .ok (.if_icmp .ge 21, 3) := by decide +kernel
theorem dX4_settle_88 : decode cX4_settle 88 = .ok (.aload_n 0, 1) := by decide +kernel
theorem dX4_settle_89 : decode cX4_settle 89 = .ok (.getfield 19, 3) := by decide +kernel
theorem dX4_settle_92 : decode cX4_settle 92 = .ok (.iload_n 2, 1) := by decide +kernel
theorem dX4_settle_93 : decode cX4_settle 93 = .ok (.aload_n 0, 1) := by decide +kernel
theorem dX4_settle_94 : decode cX4_settle 94 = .ok (.getfield 15, 3) := by decide +kernel
theorem dX4_settle_97 : decode cX4_settle 97 = .ok (.iload_n 2, 1) := by decide +kernel
theorem dX4_settle_98 : decode cX4_settle 98 = .ok (.laload, 1) := by decide +kernel
theorem dX4_settle_99 : decode cX4_settle 99 = .ok (.lastore, 1) := by decide +kernel
theorem dX4_settle_100 : decode cX4_settle 100 = .ok (.iinc 2 1, 3) := by decide +kernel
theorem dX4_settle_103 : decode cX4_settle 103 = .ok (.goto (-21), 3) := by decide +kernel
theorem dX4_settle_106 : decode cX4_settle 106 = .ok (.aload_n 0, 1) := by decide +kernel
theorem dX4_settle_107 : decode cX4_settle 107 = .ok (.iconst 0, 1) := by decide +kernel
theorem dX4_settle_108 : decode cX4_settle 108 = .ok (.putfield 31, 3) := by decide +kernel
theorem dX4_settle_111 : decode cX4_settle 111 = .ok (.iconst 0, 1) := by decide +kernel
theorem dX4_settle_112 : decode cX4_settle 112 = .ok (.istore_n 2, 1) := by decide +kernel
theorem dX4_settle_113 : decode cX4_settle 113 = .ok (.iload_n 2, 1) := by decide +kernel
theorem dX4_settle_114 : decode cX4_settle 114 = .ok (.bipush 8, 2) := by decide +kernel
theorem dX4_settle_116 : decode cX4_settle 116 = .ok (.if_icmp .ge 26, 3) := by decide +kernel
theorem dX4_settle_119 : decode cX4_settle 119 = .ok (.aload_n 0, 1) := by decide +kernel
theorem dX4_settle_120 : decode cX4_settle 120 = .ok (.invokevirtual 77, 3) := by decide +kernel
theorem dX4_settle_123 : decode cX4_settle 123 = .ok (.ifCond .eq 19, 3) := by decide +kernel
theorem dX4_settle_126 : decode cX4_settle 126 = .ok (.aload_n 0, 1) := by decide +kernel
theorem dX4_settle_127 : decode cX4_settle 127 = .ok (.dup, 1) := by decide +kernel
theorem dX4_settle_128 : decode cX4_settle 128 = .ok (.getfield 31, 3) := by decide +kernel
theorem dX4_settle_131 : decode cX4_settle 131 = .ok (.iconst 1, 1) := by decide +kernel
theorem dX4_settle_132 : decode cX4_settle 132 = .ok (.iadd, 1) := by decide +kernel
theorem dX4_settle_133 : decode cX4_settle 133 = .ok (.putfield 31, 3) := by decide +kernel
theorem dX4_settle_136 : decode cX4_settle 136 = .ok (.iinc 2 1, 3) := by decide +kernel
theorem dX4_settle_139 : decode cX4_settle 139 = .ok (.goto (-26), 3) := by decide +kernel
theorem dX4_settle_142 : decode cX4_settle 142 = .ok (.aload_n 0, 1) := by decide +kernel
theorem dX4_settle_143 : decode cX4_settle 143 = .ok (.getfield 31, 3) := by decide +kernel
theorem dX4_settle_146 : decode cX4_settle 146 = .ok (.ireturn, 1) := by decide +kernel
theorem dX4_book_0 : decode cX4_book 0 = .ok (.iload_n 1, 1) := by decide +kernel
theorem dX4_book_1 : decode cX4_book 1 = .ok (.invokestatic 81, 3) := by decide +kernel
theorem dX4_book_4 : decode cX4_book 4 = .ok (.ifCond .eq 14, 3) := by decide +kernel
theorem dX4_book_7 : decode cX4_book 7 = .ok (.aload_n 0, 1) := by decide +kernel
theorem dX4_book_8 : decode cX4_book 8 = .ok (.getfield 15, 3) := by decide +kernel
theorem dX4_book_11 : decode cX4_book 11 = .ok (.iload_n 1, 1) := by decide +kernel
theorem dX4_book_12 : decode cX4_book 12 = .ok (.dup2, 1) := by decide +kernel
theorem dX4_book_13 : decode cX4_book 13 = .ok (.laload, 1) := by decide +kernel
theorem dX4_book_14 : decode cX4_book 14 = .ok (.iload_n 2, 1) := by decide +kernel
theorem dX4_book_15 : decode cX4_book 15 = .ok (.i2l, 1) := by decide +kernel
theorem dX4_book_16 : decode cX4_book 16 = .ok (.ladd, 1) := by decide +kernel
theorem dX4_book_17 : decode cX4_book 17 = .ok (.lastore, 1) := by decide +kernel
theorem dX4_book_18 : decode cX4_book 18 = .ok (.return_, 1) := by decide +kernel
theorem dX4_addGift_0 : decode cX4_addGift 0 = .ok (.aload_n 0, 1) := by decide +kernel
theorem dX4_addGift_1 : decode cX4_addGift 1 = .ok (.iconst (-1), 1) := by decide +kernel
theorem dX4_addGift_2 : decode cX4_addGift 2 = .ok (.invokevirtual 85, 3) := by decide +kernel
theorem dX4_addGift_5 : decode cX4_addGift 5 = .ok (.istore_n 1, 1) := by decide +kernel
theorem dX4_addGift_6 : decode cX4_addGift 6 = .ok (.aload_n 0, 1) := by decide +kernel
theorem dX4_addGift_7 : decode cX4_addGift 7 = .ok (.iconst 1, 1) := by decide +kernel
theorem dX4_addGift_8 : decode cX4_addGift 8 = .ok (.invokevirtual 85, 3) := by decide +kernel
theorem dX4_addGift_11 : decode cX4_addGift 11 = .ok (.istore_n 2, 1) := by decide +kernel
theorem dX4_addGift_12 : decode cX4_addGift 12 = .ok (.iload_n 1, 1) := by decide +kernel
theorem dX4_addGift_13 : decode cX4_addGift 13 = .ok (.invokestatic 81, 3) := by decide +kernel
theorem dX4_addGift_16 : decode cX4_addGift 16 = .ok (.ifCond .eq 26, 3) := by decide +kernel
theorem dX4_addGift_19 : decode cX4_addGift 19 = .ok (.iload_n 2, 1) := by decide +kernel
theorem dX4_addGift_20 : decode cX4_addGift 20 = .ok (.invokestatic 81, 3) := by decide +kernel
theorem dX4_addGift_23 : decode cX4_addGift 23 = .ok (.ifCond .eq 19, 3) := by decide +kernel
theorem dX4_addGift_26 : decode cX4_addGift 26 = .ok (.aload_n 0, 1) := by decide +kernel
theorem dX4_addGift_27 : decode cX4_addGift 27 = .ok (.getfield 31, 3) := by decide +kernel
theorem dX4_addGift_30 : decode cX4_addGift 30 = .ok (.ifCond .lt 12, 3) := by decide +kernel
theorem dX4_addGift_33 : decode cX4_addGift 33 = .ok (.aload_n 0, 1) := by decide +kernel
theorem dX4_addGift_34 : decode cX4_addGift 34 = .ok (.getfield 31, 3) := by decide +kernel
theorem dX4_addGift_37 : decode cX4_addGift 37 = .ok (.bipush 8, 2) := by decide +kernel
theorem dX4_addGift_39 : decode cX4_addGift 39 = .ok (.if_icmp .lt 5, 3) := by decide +kernel
theorem dX4_addGift_42 : decode cX4_addGift 42 = .ok (.iconst 0, 1) := by decide +kernel
theorem dX4_addGift_43 : decode cX4_addGift 43 = .ok (.ireturn, 1) := by decide +kernel
theorem dX4_addGift_44 : decode cX4_addGift 44 = .ok (.aload_n 0, 1) := by decide +kernel
theorem dX4_addGift_45 : decode cX4_addGift 45 = .ok (.getfield 19, 3) := by decide +kernel
theorem dX4_addGift_48 : decode cX4_addGift 48 = .ok (.iload_n 1, 1) := by decide +kernel
theorem dX4_addGift_49 : decode cX4_addGift 49 = .ok (.laload, 1) := by decide +kernel
theorem dX4_addGift_50 : decode cX4_addGift 50 = .ok (.lneg, 1) := by decide +kernel
theorem dX4_addGift_51 : decode cX4_addGift 51 = .ok (.aload_n 0, 1) := by decide +kernel
theorem dX4_addGift_52 : decode cX4_addGift 52 = .ok (.getfield 19, 3) := by decide +kernel
theorem dX4_addGift_55 : decode cX4_addGift 55 = .ok (.iload_n 2, 1) := by decide +kernel
theorem dX4_addGift_56 : decode cX4_addGift 56 = .ok (.laload, 1) := by decide +kernel
theorem dX4_addGift_57 : decode cX4_addGift 57 = .ok (.invokestatic 89, 3) := by decide +kernel
theorem dX4_addGift_60 : decode cX4_addGift 60 = .ok (.lstore_n 3, 1) := by decide +kernel
theorem dX4_addGift_61 : decode cX4_addGift 61 = .ok (.aload_n 0, 1) := by decide +kernel
theorem dX4_addGift_62 : decode cX4_addGift 62 = .ok (.getfield 19, 3) := by decide +kernel
theorem dX4_addGift_65 : decode cX4_addGift 65 = .ok (.iload_n 1, 1) := by decide +kernel
theorem dX4_addGift_66 : decode cX4_addGift 66 = .ok (.dup2, 1) := by decide +kernel
theorem dX4_addGift_67 : decode cX4_addGift 67 = .ok (.laload, 1) := by decide +kernel
theorem dX4_addGift_68 : decode cX4_addGift 68 = .ok (.lload_n 3, 1) := by decide +kernel
theorem dX4_addGift_69 : decode cX4_addGift 69 = .ok (.ladd, 1) := by decide +kernel
theorem dX4_addGift_70 : decode cX4_addGift 70 = .ok (.lastore, 1) := by decide +kernel
theorem dX4_addGift_71 : decode cX4_addGift 71 = .ok (.aload_n 0, 1) := by decide +kernel
theorem dX4_addGift_72 : decode cX4_addGift 72 = .ok (.getfield 19, 3) := by decide +kernel
theorem dX4_addGift_75 : decode cX4_addGift 75 = .ok (.iload_n 2, 1) := by decide +kernel
theorem dX4_addGift_76 : decode cX4_addGift 76 = .ok (.dup2, 1) := by decide +kernel
theorem dX4_addGift_77 : decode cX4_addGift 77 = .ok (.laload, 1) := by decide +kernel
theorem dX4_addGift_78 : decode cX4_addGift 78 = .ok (.lload_n 3, 1) := by decide +kernel
theorem dX4_addGift_79 : decode cX4_addGift 79 = .ok (.lsub, 1) := by decide +kernel
theorem dX4_addGift_80 : decode cX4_addGift 80 = .ok (.lastore, 1) := by decide +kernel
theorem dX4_addGift_81 : decode cX4_addGift 81 = .ok (.aload_n 0, 1) := by decide +kernel
theorem dX4_addGift_82 : decode cX4_addGift 82 = .ok (.getfield 22, 3) := by decide +kernel
theorem dX4_addGift_85 : decode cX4_addGift 85 = .ok (.aload_n 0, 1) := by decide +kernel
theorem dX4_addGift_86 : decode cX4_addGift 86 = .ok (.getfield 31, 3) := by decide +kernel
theorem dX4_addGift_89 : decode cX4_addGift 89 = .ok (.iload_n 1, 1) := by decide +kernel
theorem dX4_addGift_90 : decode cX4_addGift 90 = .ok (.iastore, 1) := by decide +kernel
theorem dX4_addGift_91 : decode cX4_addGift 91 = .ok (.aload_n 0, 1) := by decide +kernel
theorem dX4_addGift_92 : decode cX4_addGift 92 = .ok (.getfield 25, 3) := by decide +kernel
theorem dX4_addGift_95 : decode cX4_addGift 95 = .ok (.aload_n 0, 1) := by decide +kernel
theorem dX4_addGift_96 : decode cX4_addGift 96 = .ok (.getfield 31, 3) := by decide +kernel
theorem dX4_addGift_99 : decode cX4_addGift 99 = .ok (.iload_n 2, 1) := by decide +kernel
theorem dX4_addGift_100 : decode cX4_addGift 100 = .ok (.iastore, 1) := by decide +kernel
theorem dX4_addGift_101 : decode cX4_addGift 101 = .ok (.aload_n 0, 1) := by decide +kernel
theorem dX4_addGift_102 : decode cX4_addGift 102 = .ok (.getfield 28, 3) := by decide +kernel
theorem dX4_addGift_105 : decode cX4_addGift 105 = .ok (.aload_n 0, 1) := by decide +kernel
theorem dX4_addGift_106 : decode cX4_addGift 106 = .ok (.getfield 31, 3) := by decide +kernel
theorem dX4_addGift_109 : decode cX4_addGift 109 = .ok (.lload_n 3, 1) := by decide +kernel
theorem dX4_addGift_110 : decode cX4_addGift 110 = .ok (.lastore, 1) := by decide +kernel
theorem dX4_addGift_111 : decode cX4_addGift 111 = .ok (.iconst 1, 1) := by decide +kernel
theorem dX4_addGift_112 : decode cX4_addGift 112 = .ok (.ireturn, 1) := by decide +kernel
theorem dX4_leastHouse_0 : decode cX4_leastHouse 0 = .ok (.iconst 0, 1) := by decide +kernel
theorem dX4_leastHouse_1 : decode cX4_leastHouse 1 = .ok (.istore_n 2, 1) := by decide +kernel
theorem dX4_leastHouse_2 : decode cX4_leastHouse 2 = .ok (.iload_n 2, 1) := by decide +kernel
theorem dX4_leastHouse_3 : decode cX4_leastHouse 3 = .ok (.bipush 8, 2) := by decide +kernel
theorem dX4_leastHouse_5 : decode cX4_leastHouse 5 = .ok (.if_icmp .ge 25, 3) := by decide +kernel
theorem dX4_leastHouse_8 : decode cX4_leastHouse 8 = .ok (.aload_n 0, 1) := by decide +kernel
theorem dX4_leastHouse_9 : decode cX4_leastHouse 9 = .ok (.getfield 19, 3) := by decide +kernel
theorem dX4_leastHouse_12 : decode cX4_leastHouse 12 = .ok (.iload_n 2, 1) := by decide +kernel
theorem dX4_leastHouse_13 : decode cX4_leastHouse 13 = .ok (.laload, 1) := by decide +kernel
theorem dX4_leastHouse_14 : decode cX4_leastHouse 14 = .ok (.iload_n 1, 1) := by decide +kernel
theorem dX4_leastHouse_15 : decode cX4_leastHouse 15 = .ok (.i2l, 1) := by decide +kernel
theorem dX4_leastHouse_16 : decode cX4_leastHouse 16 = .ok (.lmul, 1) := by decide +kernel
theorem dX4_leastHouse_17 : decode cX4_leastHouse 17 = .ok (.lconst 0, 1) := by decide +kernel
theorem dX4_leastHouse_18 : decode cX4_leastHouse 18 = .ok (.lcmp, 1) := by decide +kernel
theorem dX4_leastHouse_19 : decode cX4_leastHouse 19 = .ok (.ifCond .le 5, 3) := by decide +kernel
theorem dX4_leastHouse_22 : decode cX4_leastHouse 22 = .ok (.iload_n 2, 1) := by decide +kernel
theorem dX4_leastHouse_23 : decode cX4_leastHouse 23 = .ok (.ireturn, 1) := by decide +kernel
theorem dX4_leastHouse_24 : decode cX4_leastHouse 24 = .ok (.iinc 2 1, 3) := by decide +kernel
theorem dX4_leastHouse_27 : decode cX4_leastHouse 27 = .ok (.goto (-25), 3) := by decide +kernel
theorem dX4_leastHouse_30 : decode cX4_leastHouse 30 = .ok (.iconst (-1), 1) := by decide +kernel
theorem dX4_leastHouse_31 : decode cX4_leastHouse 31 = .ok (.ireturn, 1) := by decide +kernel
theorem dX4_settled_0 : decode cX4_settled 0 = .ok (.aload_n 0, 1) := by decide +kernel
theorem dX4_settled_1 : decode cX4_settled 1 = .ok (.getfield 31, 3) := by decide +kernel
theorem dX4_settled_4 : decode cX4_settled 4 = .ok (.iconst (-1), 1) := by decide +kernel
theorem dX4_settled_5 : decode cX4_settled 5 = .ok (.if_icmp .ne 7, 3) := by decide +kernel
theorem dX4_settled_8 : decode cX4_settled 8 = .ok (.ldc2_w 93, 3) := by decide +kernel
theorem dX4_settled_11 : decode cX4_settled 11 = .ok (.lreturn, 1) := by decide +kernel
theorem dX4_settled_12 : decode cX4_settled 12 = .ok (.iload_n 2, 1) := by decide +kernel
theorem dX4_settled_13 : decode cX4_settled 13 = .ok (.bipush 10, 2) := by decide +kernel
theorem dX4_settled_15 : decode cX4_settled 15 = .ok (.if_icmp .lt 19, 3) := by decide +kernel
theorem dX4_settled_18 : decode cX4_settled 18 = .ok (.iload_n 2, 1) := by decide +kernel
theorem dX4_settled_19 : decode cX4_settled 19 = .ok (.bipush 18, 2) := by decide +kernel
theorem dX4_settled_21 : decode cX4_settled 21 = .ok (.if_icmp .ge 13, 3) := by decide +kernel
theorem dX4_settled_24 : decode cX4_settled 24 = .ok (.aload_n 0, 1) := by decide +kernel
theorem dX4_settled_25 : decode cX4_settled 25 = .ok (.getfield 15, 3) := by decide +kernel
theorem dX4_settled_28 : decode cX4_settled 28 = .ok (.iload_n 2, 1) := by decide +kernel
theorem dX4_settled_29 : decode cX4_settled 29 = .ok (.bipush 10, 2) := by decide +kernel
theorem dX4_settled_31 : decode cX4_settled 31 = .ok (.isub, 1) := by decide +kernel
theorem dX4_settled_32 : decode cX4_settled 32 = .ok (.laload, 1) := by decide +kernel
theorem dX4_settled_33 : decode cX4_settled 33 = .ok (.lreturn, 1) := by decide +kernel
theorem dX4_settled_34 : decode cX4_settled 34 = .ok (.iload_n 1, 1) := by decide +kernel
theorem dX4_settled_35 : decode cX4_settled 35 = .ok (.ifCond .lt 17, 3) := by decide +kernel
theorem dX4_settled_38 : decode cX4_settled 38 = .ok (.iload_n 1, 1) := by decide +kernel
theorem dX4_settled_39 : decode cX4_settled 39 = .ok (.aload_n 0, 1) := by decide +kernel
theorem dX4_settled_40 : decode cX4_settled 40 = .ok (.getfield 31, 3) := by decide +kernel
theorem dX4_settled_43 : decode cX4_settled 43 = .ok (.if_icmp .ge 9, 3) := by decide +kernel
theorem dX4_settled_46 : decode cX4_settled 46 = .ok (.iload_n 1, 1) := by decide +kernel
theorem dX4_settled_47 : decode cX4_settled 47 = .ok (.bipush 8, 2) := by decide +kernel
theorem dX4_settled_49 : decode cX4_settled 49 = .ok (.if_icmp .lt 7, 3) := by decide +kernel
theorem dX4_settled_52 : decode cX4_settled 52 = .ok (.ldc2_w 93, 3) := by decide +kernel
theorem dX4_settled_55 : decode cX4_settled 55 = .ok (.lreturn, 1) := by decide +kernel
theorem dX4_settled_56 : decode cX4_settled 56 = .ok (.iload_n 2, 1) := by decide +kernel
theorem dX4_settled_57 : decode cX4_settled 57 = .ok (.tableswitch 50 0 2 #[27, 35, 43], 27) := by decide +kernel
theorem dX4_settled_84 : decode cX4_settled 84 = .ok (.aload_n 0, 1) := by decide +kernel
theorem dX4_settled_85 : decode cX4_settled 85 = .ok (.getfield 22, 3) := by decide +kernel
theorem dX4_settled_88 : decode cX4_settled 88 = .ok (.iload_n 1, 1) := by decide +kernel
theorem dX4_settled_89 : decode cX4_settled 89 = .ok (.iaload, 1) := by decide +kernel
theorem dX4_settled_90 : decode cX4_settled 90 = .ok (.i2l, 1) := by decide +kernel
theorem dX4_settled_91 : decode cX4_settled 91 = .ok (.lreturn, 1) := by decide +kernel
theorem dX4_settled_92 : decode cX4_settled 92 = .ok (.aload_n 0, 1) := by decide +kernel
theorem dX4_settled_93 : decode cX4_settled 93 = .ok (.getfield 25, 3) := by decide +kernel
theorem dX4_settled_96 : decode cX4_settled 96 = .ok (.iload_n 1, 1) := by decide +kernel
theorem dX4_settled_97 : decode cX4_settled 97 = .ok (.iaload, 1) := by decide +kernel
theorem dX4_settled_98 : decode cX4_settled 98 = .ok (.i2l, 1) := by decide +kernel
theorem dX4_settled_99 : decode cX4_settled 99 = .ok (.lreturn, 1) := by decide +kernel
theorem dX4_settled_100 : decode cX4_settled 100 = .ok (.aload_n 0, 1) := by decide +kernel
theorem dX4_settled_101 : decode cX4_settled 101 = .ok (.getfield 28, 3) := by decide +kernel
theorem dX4_settled_104 : decode cX4_settled 104 = .ok (.iload_n 1, 1) := by decide +kernel
theorem dX4_settled_105 : decode cX4_settled 105 = .ok (.laload, 1) := by decide +kernel
theorem dX4_settled_106 : decode cX4_settled 106 = .ok (.lreturn, 1) := by decide +kernel
theorem dX4_settled_107 : decode cX4_settled 107 = .ok (.ldc2_w 93, 3) := by decide +kernel
theorem dX4_settled_110 : decode cX4_settled 110 = .ok (.lreturn, 1) := by decide +kernel
theorem dX5_init_0 : decode cX5_init 0 = .ok (.aload_n 0, 1) := by decide +kernel
theorem dX5_init_1 : decode cX5_init 1 = .ok (.invokespecial 3, 3) := by decide +kernel
theorem dX5_init_4 : decode cX5_init 4 = .ok (.aload_n 0, 1) := by decide +kernel
theorem dX5_init_5 : decode cX5_init 5 = .ok (.bipush 40, 2) := by decide +kernel
theorem dX5_init_7 : decode cX5_init 7 = .ok (.newarray .int, 2) := by decide +kernel
theorem dX5_init_9 : decode cX5_init 9 = .ok (.putfield 9, 3) := by decide +kernel
theorem dX5_init_12 : decode cX5_init 12 = .ok (.aload_n 0, 1) := by decide +kernel
theorem dX5_init_13 : decode cX5_init 13 = .ok (.bipush 40, 2) := by decide +kernel
theorem dX5_init_15 : decode cX5_init 15 = .ok (.newarray .int, 2) := by decide +kernel
theorem dX5_init_17 : decode cX5_init 17 = .ok (.putfield 15, 3) := by decide +kernel
theorem dX5_init_20 : decode cX5_init 20 = .ok (.aload_n 0, 1) := by decide +kernel
theorem dX5_init_21 : decode cX5_init 21 = .ok (.aload_n 1, 1) := by decide +kernel
theorem dX5_init_22 : decode cX5_init 22 = .ok (.putfield 18, 3) := by decide +kernel
theorem dX5_init_25 : decode cX5_init 25 = .ok (.aload_n 0, 1) := by decide +kernel
theorem dX5_init_26 : decode cX5_init 26 = .ok (.iload_n 2, 1) := by decide +kernel
theorem dX5_init_27 : decode cX5_init 27 = .ok (.putfield 22, 3) := by decide +kernel
theorem dX5_init_30 : decode cX5_init 30 = .ok (.aload_n 0, 1) := by decide +kernel
theorem dX5_init_31 : decode cX5_init 31 = .ok (.iload_n 3, 1) := by decide +kernel
theorem dX5_init_32 : decode cX5_init 32 = .ok (.putfield 26, 3) := by decide +kernel
theorem dX5_init_35 : decode cX5_init 35 = .ok (.aload_n 0, 1) := by decide +kernel
theorem dX5_init_36 : decode cX5_init 36 = .ok (.iload 4, 2) := by decide +kernel
theorem dX5_init_38 : decode cX5_init 38 = .ok (.putfield 29, 3) := by decide +kernel
theorem dX5_init_41 : decode cX5_init 41 = .ok (.return_, 1) := by decide +kernel
theorem dX5_size_0 : decode cX5_size 0 = .ok (.aload_n 0, 1) := by decide +kernel
theorem dX5_size_1 : decode cX5_size 1 = .ok (.getfield 32, 3) := by decide +kernel
theorem dX5_size_4 : decode cX5_size 4 = .ok (.ireturn, 1) := by decide +kernel
theorem dX5_stand_0 : decode cX5_stand 0 = .ok (.aload_n 0, 1) := by decide +kernel
theorem dX5_stand_1 : decode cX5_stand 1 = .ok (.getfield 32, 3) := by decide +kernel
theorem dX5_stand_4 : decode cX5_stand 4 = .ok (.ifCond .lt 12, 3) := by decide +kernel
theorem dX5_stand_7 : decode cX5_stand 7 = .ok (.aload_n 0, 1) := by decide +kernel
theorem dX5_stand_8 : decode cX5_stand 8 = .ok (.getfield 32, 3) := by decide +kernel
theorem dX5_stand_11 : decode cX5_stand 11 = .ok (.bipush 40, 2) := by decide +kernel
theorem dX5_stand_13 : decode cX5_stand 13 = .ok (.if_icmp .lt 5, 3) := by decide +kernel
theorem dX5_stand_16 : decode cX5_stand 16 = .ok (.iconst 0, 1) := by decide +kernel
theorem dX5_stand_17 : decode cX5_stand 17 = .ok (.ireturn, 1) := by decide +kernel
theorem dX5_stand_18 : decode cX5_stand 18 = .ok (.aload_n 0, 1) := by decide +kernel
theorem dX5_stand_19 : decode cX5_stand 19 = .ok (.getfield 9, 3) := by decide +kernel
theorem dX5_stand_22 : decode cX5_stand 22 = .ok (.aload_n 0, 1) := by decide +kernel
theorem dX5_stand_23 : decode cX5_stand 23 = .ok (.getfield 32, 3) := by decide +kernel
theorem dX5_stand_26 : decode cX5_stand 26 = .ok (.iload_n 1, 1) := by decide +kernel
theorem dX5_stand_27 : decode cX5_stand 27 = .ok (.iastore, 1) := by decide +kernel
theorem dX5_stand_28 : decode cX5_stand 28 = .ok (.aload_n 0, 1) := by decide +kernel
theorem dX5_stand_29 : decode cX5_stand 29 = .ok (.getfield 15, 3) := by decide +kernel
theorem dX5_stand_32 : decode cX5_stand 32 = .ok (.aload_n 0, 1) := by decide +kernel
theorem dX5_stand_33 : decode cX5_stand 33 = .ok (.getfield 32, 3) := by decide +kernel
theorem dX5_stand_36 : decode cX5_stand 36 = .ok (.iload_n 2, 1) := by decide +kernel
theorem dX5_stand_37 : decode cX5_stand 37 = .ok (.iastore, 1) := by decide +kernel
theorem dX5_stand_38 : decode cX5_stand 38 = .ok (.aload_n 0, 1) := by decide +kernel
theorem dX5_stand_39 : decode cX5_stand 39 = .ok (.dup, 1) := by decide +kernel
theorem dX5_stand_40 : decode cX5_stand 40 = .ok (.getfield 32, 3) := by decide +kernel
theorem dX5_stand_43 : decode cX5_stand 43 = .ok (.iconst 1, 1) := by decide +kernel
theorem dX5_stand_44 : decode cX5_stand 44 = .ok (.iadd, 1) := by decide +kernel
theorem dX5_stand_45 : decode cX5_stand 45 = .ok (.putfield 32, 3) := by decide +kernel
theorem dX5_stand_48 : decode cX5_stand 48 = .ok (.iconst 1, 1) := by decide +kernel
theorem dX5_stand_49 : decode cX5_stand 49 = .ok (.ireturn, 1) := by decide +kernel
theorem dX5_wordAt_0 : decode cX5_wordAt 0 = .ok (.iload_n 1, 1) := by decide +kernel
theorem dX5_wordAt_1 : decode cX5_wordAt 1 = .ok (.ifCond .lt 26, 3) := by decide +kernel
theorem dX5_wordAt_4 : decode cX5_wordAt 4 = .ok (.iload_n 1, 1) := by decide +kernel
theorem dX5_wordAt_5 : decode cX5_wordAt 5 = .ok (.aload_n 0, 1) := by decide +kernel
theorem dX5_wordAt_6 : decode cX5_wordAt 6 = .ok (.getfield 32, 3) := by decide +kernel
theorem dX5_wordAt_9 : decode cX5_wordAt 9 = .ok (.if_icmp .ge 18, 3) := by decide +kernel
theorem dX5_wordAt_12 : decode cX5_wordAt 12 = .ok (.iload_n 1, 1) := by decide +kernel
theorem dX5_wordAt_13 : decode cX5_wordAt 13 = .ok (.bipush 40, 2) := by decide +kernel
theorem dX5_wordAt_15 : decode cX5_wordAt 15 = .ok (.if_icmp .ge 12, 3) := by decide +kernel
theorem dX5_wordAt_18 : decode cX5_wordAt 18 = .ok (.aload_n 0, 1) := by decide +kernel
theorem dX5_wordAt_19 : decode cX5_wordAt 19 = .ok (.getfield 9, 3) := by decide +kernel
theorem dX5_wordAt_22 : decode cX5_wordAt 22 = .ok (.iload_n 1, 1) := by decide +kernel
theorem dX5_wordAt_23 : decode cX5_wordAt 23 = .ok (.iaload, 1) := by decide +kernel
theorem dX5_wordAt_24 : decode cX5_wordAt 24 = .ok (.goto 4, 3) := by decide +kernel
theorem dX5_wordAt_27 : decode cX5_wordAt 27 = .ok (.iconst (-1), 1) := by decide +kernel
theorem dX5_wordAt_28 : decode cX5_wordAt 28 = .ok (.ireturn, 1) := by decide +kernel
theorem dX5_factorAt_0 : decode cX5_factorAt 0 = .ok (.iload_n 1, 1) := by decide +kernel
theorem dX5_factorAt_1 : decode cX5_factorAt 1 = .ok (.ifCond .lt 26, 3) := by decide +kernel
theorem dX5_factorAt_4 : decode cX5_factorAt 4 = .ok (.iload_n 1, 1) := by decide +kernel
theorem dX5_factorAt_5 : decode cX5_factorAt 5 = .ok (.aload_n 0, 1) := by decide +kernel
theorem dX5_factorAt_6 : decode cX5_factorAt 6 = .ok (.getfield 32, 3) := by decide +kernel
theorem dX5_factorAt_9 : decode cX5_factorAt 9 = .ok (.if_icmp .ge 18, 3) := by decide +kernel
theorem dX5_factorAt_12 : decode cX5_factorAt 12 = .ok (.iload_n 1, 1) := by decide +kernel
theorem dX5_factorAt_13 : decode cX5_factorAt 13 = .ok (.bipush 40, 2) := by decide +kernel
theorem dX5_factorAt_15 : decode cX5_factorAt 15 = .ok (.if_icmp .ge 12, 3) := by decide +kernel
theorem dX5_factorAt_18 : decode cX5_factorAt 18 = .ok (.aload_n 0, 1) := by decide +kernel
theorem dX5_factorAt_19 : decode cX5_factorAt 19 = .ok (.getfield 15, 3) := by decide +kernel
theorem dX5_factorAt_22 : decode cX5_factorAt 22 = .ok (.iload_n 1, 1) := by decide +kernel
theorem dX5_factorAt_23 : decode cX5_factorAt 23 = .ok (.iaload, 1) := by decide +kernel
theorem dX5_factorAt_24 : decode cX5_factorAt 24 = .ok (.goto 4, 3) := by decide +kernel
theorem dX5_factorAt_27 : decode cX5_factorAt 27 = .ok (.iconst 0, 1) := by decide +kernel
theorem dX5_factorAt_28 : decode cX5_factorAt 28 = .ok (.ireturn, 1) := by decide +kernel
theorem dX5_drop_0 : decode cX5_drop 0 = .ok (.iload_n 1, 1) := by decide +kernel
theorem dX5_drop_1 : decode cX5_drop 1 = .ok (.ifCond .lt 20, 3) := by decide +kernel
theorem dX5_drop_4 : decode cX5_drop 4 = .ok (.iload_n 1, 1) := by decide +kernel
theorem dX5_drop_5 : decode cX5_drop 5 = .ok (.aload_n 0, 1) := by decide +kernel
theorem dX5_drop_6 : decode cX5_drop 6 = .ok (.getfield 32, 3) := by decide +kernel
theorem dX5_drop_9 : decode cX5_drop 9 = .ok (.if_icmp .ge 12, 3) := by decide +kernel
theorem dX5_drop_12 : decode cX5_drop 12 = .ok (.aload_n 0, 1) := by decide +kernel
theorem dX5_drop_13 : decode cX5_drop 13 = .ok (.getfield 32, 3) := by decide +kernel
theorem dX5_drop_16 : decode cX5_drop 16 = .ok (.bipush 40, 2) := by decide +kernel
theorem dX5_drop_18 : decode cX5_drop 18 = .ok (.if_icmp .le 4, 3) := by decide +kernel
theorem dX5_drop_21 : decode cX5_drop 21 = .ok (.return_, 1) := by decide +kernel
theorem dX5_drop_22 : decode cX5_drop 22 = .ok (.iload_n 1, 1) := by decide +kernel
theorem dX5_drop_23 : decode cX5_drop 23 = .ok (.istore_n 2, 1) := by decide +kernel
theorem dX5_drop_24 : decode cX5_drop 24 = .ok (.iload_n 2, 1) := by decide +kernel
theorem dX5_drop_25 : decode cX5_drop 25 = .ok (.iconst 1, 1) := by decide +kernel
theorem dX5_drop_26 : decode cX5_drop 26 = .ok (.iadd, 1) := by decide +kernel
theorem dX5_drop_27 : decode cX5_drop 27 = .ok (.aload_n 0, 1) := by decide +kernel
theorem dX5_drop_28 : decode cX5_drop 28 = .ok (.getfield 32, 3) := by decide +kernel
theorem dX5_drop_31 : decode cX5_drop 31 = .ok (.if_icmp .ge 37, 3) := by decide +kernel
theorem dX5_drop_34 : decode cX5_drop 34 = .ok (.aload_n 0, 1) := by decide +kernel
theorem dX5_drop_35 : decode cX5_drop 35 = .ok (.getfield 9, 3) := by decide +kernel
theorem dX5_drop_38 : decode cX5_drop 38 = .ok (.iload_n 2, 1) := by decide +kernel
theorem dX5_drop_39 : decode cX5_drop 39 = .ok (.aload_n 0, 1) := by decide +kernel
theorem dX5_drop_40 : decode cX5_drop 40 = .ok (.getfield 9, 3) := by decide +kernel
theorem dX5_drop_43 : decode cX5_drop 43 = .ok (.iload_n 2, 1) := by decide +kernel
theorem dX5_drop_44 : decode cX5_drop 44 = .ok (.iconst 1, 1) := by decide +kernel
theorem dX5_drop_45 : decode cX5_drop 45 = .ok (.iadd, 1) := by decide +kernel
theorem dX5_drop_46 : decode cX5_drop 46 = .ok (.iaload, 1) := by decide +kernel
theorem dX5_drop_47 : decode cX5_drop 47 = .ok (.iastore, 1) := by decide +kernel
theorem dX5_drop_48 : decode cX5_drop 48 = .ok (.aload_n 0, 1) := by decide +kernel
theorem dX5_drop_49 : decode cX5_drop 49 = .ok (.getfield 15, 3) := by decide +kernel
theorem dX5_drop_52 : decode cX5_drop 52 = .ok (.iload_n 2, 1) := by decide +kernel
theorem dX5_drop_53 : decode cX5_drop 53 = .ok (.aload_n 0, 1) := by decide +kernel
theorem dX5_drop_54 : decode cX5_drop 54 = .ok (.getfield 15, 3) := by decide +kernel
theorem dX5_drop_57 : decode cX5_drop 57 = .ok (.iload_n 2, 1) := by decide +kernel
theorem dX5_drop_58 : decode cX5_drop 58 = .ok (.iconst 1, 1) := by decide +kernel
theorem dX5_drop_59 : decode cX5_drop 59 = .ok (.iadd, 1) := by decide +kernel
theorem dX5_drop_60 : decode cX5_drop 60 = .ok (.iaload, 1) := by decide +kernel
theorem dX5_drop_61 : decode cX5_drop 61 = .ok (.iastore, 1) := by decide +kernel
theorem dX5_drop_62 : decode cX5_drop 62 = .ok (.iinc 2 1, 3) := by decide +kernel
theorem dX5_drop_65 : decode cX5_drop 65 = .ok (.goto (-41), 3) := by decide +kernel
theorem dX5_drop_68 : decode cX5_drop 68 = .ok (.aload_n 0, 1) := by decide +kernel
theorem dX5_drop_69 : decode cX5_drop 69 = .ok (.dup, 1) := by decide +kernel
theorem dX5_drop_70 : decode cX5_drop 70 = .ok (.getfield 32, 3) := by decide +kernel
theorem dX5_drop_73 : decode cX5_drop 73 = .ok (.iconst 1, 1) := by decide +kernel
theorem dX5_drop_74 : decode cX5_drop 74 = .ok (.isub, 1) := by decide +kernel
theorem dX5_drop_75 : decode cX5_drop 75 = .ok (.putfield 32, 3) := by decide +kernel
theorem dX5_drop_78 : decode cX5_drop 78 = .ok (.return_, 1) := by decide +kernel
theorem dX5_chooser_0 : decode cX5_chooser 0 = .ok (.aload_n 0, 1) := by decide +kernel
theorem dX5_chooser_1 : decode cX5_chooser 1 = .ok (.getfield 18, 3) := by decide +kernel
theorem dX5_chooser_4 : decode cX5_chooser 4 = .ok (.iload_n 1, 1) := by decide +kernel
theorem dX5_chooser_5 : decode cX5_chooser 5 = .ok (.bipush 10, 2) := by decide +kernel
theorem dX5_chooser_7 : decode cX5_chooser 7 = .ok (.invokevirtual 35, 3) := by decide +kernel
theorem dX5_chooser_10 : decode cX5_chooser 10 = .ok (.ifCond .ne 10, 3) := by decide +kernel
theorem dX5_chooser_13 : decode cX5_chooser 13 = .ok (.aload_n 0, 1) := by decide +kernel
theorem dX5_chooser_14 : decode cX5_chooser 14 = .ok (.getfield 26, 3) := by decide +kernel
theorem dX5_chooser_17 : decode cX5_chooser 17 = .ok (.goto 7, 3) := by decide +kernel
theorem dX5_chooser_20 : decode cX5_chooser 20 = .ok (.aload_n 0, 1) := by decide +kernel
theorem dX5_chooser_21 : decode cX5_chooser 21 = .ok (.getfield 29, 3) := by decide +kernel
theorem dX5_chooser_24 : decode cX5_chooser 24 = .ok (.ireturn, 1) := by decide +kernel
theorem dX5_about_0 : decode cX5_about 0 = .ok (.aload_n 0, 1) := by decide +kernel
theorem dX5_about_1 : decode cX5_about 1 = .ok (.iload_n 1, 1) := by decide +kernel
theorem dX5_about_2 : decode cX5_about 2 = .ok (.invokevirtual 41, 3) := by decide +kernel
theorem dX5_about_5 : decode cX5_about 5 = .ok (.istore 4, 2) := by decide +kernel
theorem dX5_about_7 : decode cX5_about 7 = .ok (.iload 4, 2) := by decide +kernel
theorem dX5_about_9 : decode cX5_about 9 = .ok (.iconst (-1), 1) := by decide +kernel
theorem dX5_about_10 : decode cX5_about 10 = .ok (.if_icmp .ne 5, 3) := by decide +kernel
theorem dX5_about_13 : decode cX5_about 13 = .ok (.iconst (-1), 1) := by decide +kernel
theorem dX5_about_14 : decode cX5_about 14 = .ok (.ireturn, 1) := by decide +kernel
theorem dX5_about_15 : decode cX5_about 15 = .ok (.iload_n 2, 1) := by decide +kernel
theorem dX5_about_16 : decode cX5_about 16 = .ok (.tableswitch 128 0 6 #[44, 47, 58, 65, 71, 83, 95], 44) := by decide +kernel
theorem dX5_about_60 : decode cX5_about 60 = .ok (.iload 4, 2) := by decide +kernel
theorem dX5_about_62 : decode cX5_about 62 = .ok (.ireturn, 1) := by decide +kernel
theorem dX5_about_63 : decode cX5_about 63 = .ok (.aload_n 0, 1) := by decide +kernel
theorem dX5_about_64 : decode cX5_about 64 = .ok (.getfield 18, 3) := by decide +kernel
theorem dX5_about_67 : decode cX5_about 67 = .ok (.iload 4, 2) := by decide +kernel
theorem dX5_about_69 : decode cX5_about 69 = .ok (.iconst 0, 1) := by decide +kernel
theorem dX5_about_70 : decode cX5_about 70 = .ok (.invokevirtual 35, 3) := by decide +kernel
theorem dX5_about_73 : decode cX5_about 73 = .ok (.ireturn, 1) := by decide +kernel
theorem dX5_about_74 : decode cX5_about 74 = .ok (.aload_n 0, 1) := by decide +kernel
theorem dX5_about_75 : decode cX5_about 75 = .ok (.iload 4, 2) := by decide +kernel
theorem dX5_about_77 : decode cX5_about 77 = .ok (.invokevirtual 45, 3) := by decide +kernel
theorem dX5_about_80 : decode cX5_about 80 = .ok (.ireturn, 1) := by decide +kernel
theorem dX5_about_81 : decode cX5_about 81 = .ok (.aload_n 0, 1) := by decide +kernel
theorem dX5_about_82 : decode cX5_about 82 = .ok (.iload_n 1, 1) := by decide +kernel
theorem dX5_about_83 : decode cX5_about 83 = .ok (.invokevirtual 48, 3) := by decide +kernel
theorem dX5_about_86 : decode cX5_about 86 = .ok (.ireturn, 1) := by decide +kernel
theorem dX5_about_87 : decode cX5_about 87 = .ok (.aload_n 0, 1) := by decide +kernel
theorem dX5_about_88 : decode cX5_about 88 = .ok (.getfield 18, 3) := by decide +kernel
theorem dX5_about_91 : decode cX5_about 91 = .ok (.iload 4, 2) := by decide +kernel
theorem dX5_about_93 : decode cX5_about 93 = .ok (.bipush 9, 2) := by decide +kernel
theorem dX5_about_95 : decode cX5_about 95 = .ok (.invokevirtual 35, 3) := by decide +kernel
theorem dX5_about_98 : decode cX5_about 98 = .ok (.ireturn, 1) := by decide +kernel
theorem dX5_about_99 : decode cX5_about 99 = .ok (.aload_n 0, 1) := by decide +kernel
theorem dX5_about_100 : decode cX5_about 100 = .ok (.getfield 18, 3) := by decide +kernel
theorem dX5_about_103 : decode cX5_about 103 = .ok (.iload 4, 2) := by decide +kernel
theorem dX5_about_105 : decode cX5_about 105 = .ok (.bipush 12, 2) := by decide +kernel
theorem dX5_about_107 : decode cX5_about 107 = .ok (.invokevirtual 35, 3) := by decide +kernel
theorem dX5_about_110 : decode cX5_about 110 = .ok (.ireturn, 1) := by decide +kernel
theorem dX5_about_111 : decode cX5_about 111 = .ok (.aload_n 0, 1) := by decide +kernel
theorem dX5_about_112 : decode cX5_about 112 = .ok (.getfield 18, 3) := by decide +kernel
theorem dX5_about_115 : decode cX5_about 115 = .ok (.iload 4, 2) := by decide +kernel
theorem dX5_about_117 : decode cX5_about 117 = .ok (.iconst 0, 1) := by decide +kernel
theorem dX5_about_118 : decode cX5_about 118 = .ok (.invokevirtual 35, 3) := by decide +kernel
theorem dX5_about_121 : decode cX5_about 121 = .ok (.iconst 4, 1) := by decide +kernel
theorem dX5_about_122 : decode cX5_about 122 = .ok (.if_icmp .eq 16, 3) := by decide +kernel
theorem dX5_about_125 : decode cX5_about 125 = .ok (.aload_n 0, 1) := by decide +kernel
theorem dX5_about_126 : decode cX5_about 126 = .ok (.getfield 18, 3) := by decide +kernel
theorem dX5_about_129 : decode cX5_about 129 = .ok (.iload 4, 2) := by decide +kernel
theorem dX5_about_131 : decode cX5_about 131 = .ok (.aload_n 3, 1) := by decide +kernel
theorem dX5_about_132 : decode cX5_about 132 = .ok (.invokevirtual 51, 3) := by decide +kernel
theorem dX5_about_135 : decode cX5_about 135 = .ok (.ifCond .eq 7, 3) := by decide +kernel
theorem dX5_about_138 : decode cX5_about 138 = .ok (.iconst 1, 1) := by decide +kernel
theorem dX5_about_139 : decode cX5_about 139 = .ok (.goto 4, 3) := by decide +kernel
theorem dX5_about_142 : decode cX5_about 142 = .ok (.iconst 0, 1) := by decide +kernel
theorem dX5_about_143 : decode cX5_about 143 = .ok (.ireturn, 1) := by decide +kernel
theorem dX5_about_144 : decode cX5_about 144 = .ok (.iconst (-1), 1) := by decide +kernel
theorem dX5_about_145 : decode cX5_about 145 = .ok (.ireturn, 1) := by decide +kernel
theorem dX6_init_0 : decode cX6_init 0 = .ok (.aload_n 0, 1) := by decide +kernel
theorem dX6_init_1 : decode cX6_init 1 = .ok (.invokespecial 3, 3) := by decide +kernel
theorem dX6_init_4 : decode cX6_init 4 = .ok (.aload_n 0, 1) := by decide +kernel
theorem dX6_init_5 : decode cX6_init 5 = .ok (.aload_n 1, 1) := by decide +kernel
theorem dX6_init_6 : decode cX6_init 6 = .ok (.putfield 9, 3) := by decide +kernel
theorem dX6_init_9 : decode cX6_init 9 = .ok (.aload_n 0, 1) := by decide +kernel
theorem dX6_init_10 : decode cX6_init 10 = .ok (.aload_n 2, 1) := by decide +kernel
theorem dX6_init_11 : decode cX6_init 11 = .ok (.putfield 15, 3) := by decide +kernel
theorem dX6_init_14 : decode cX6_init 14 = .ok (.return_, 1) := by decide +kernel
theorem dX6_readTape_0 : decode cX6_readTape 0 = .ok (.aload_n 0, 1) := by decide +kernel
theorem dX6_readTape_1 : decode cX6_readTape 1 = .ok (.iconst 0, 1) := by decide +kernel
theorem dX6_readTape_2 : decode cX6_readTape 2 = .ok (.putfield 19, 3) := by decide +kernel
theorem dX6_readTape_5 : decode cX6_readTape 5 = .ok (.aload_n 0, 1) := by decide +kernel
theorem dX6_readTape_6 : decode cX6_readTape 6 = .ok (.iconst 0, 1) := by decide +kernel
theorem dX6_readTape_7 : decode cX6_readTape 7 = .ok (.putfield 23, 3) := by decide +kernel
theorem dX6_readTape_10 : decode cX6_readTape 10 = .ok (.aload_n 0, 1) := by decide +kernel
theorem dX6_readTape_11 : decode cX6_readTape 11 = .ok (.getfield 15, 3) := by decide +kernel
theorem dX6_readTape_14 : decode cX6_readTape 14 = .ok (.invokevirtual 26, 3) := by decide +kernel
theorem dX6_readTape_17 : decode cX6_readTape 17 = .ok (.aload_n 0, 1) := by decide +kernel
theorem dX6_readTape_18 : decode cX6_readTape 18 = .ok (.iconst (-1), 1) := by decide +kernel
theorem dX6_readTape_19 : decode cX6_readTape 19 = .ok (.iconst 0, 1) := by decide +kernel
theorem dX6_readTape_20 : decode cX6_readTape 20 = .ok (.invokevirtual 31, 3) := by decide +kernel
theorem dX6_readTape_23 : decode cX6_readTape 23 = .ok (.ifCond .eq 21, 3) := by decide +kernel
theorem dX6_readTape_26 : decode cX6_readTape 26 = .ok (.aload_n 0, 1) := by decide +kernel
theorem dX6_readTape_27 : decode cX6_readTape 27 = .ok (.invokevirtual 35, 3) := by decide +kernel
theorem dX6_readTape_30 : decode cX6_readTape 30 = .ok (.iconst (-1), 1) := by decide +kernel
theorem dX6_readTape_31 : decode cX6_readTape 31 = .ok (.if_icmp .eq 13, 3) := by decide +kernel
theorem dX6_readTape_34 : decode cX6_readTape 34 = .ok (.aload_n 0, 1) := by decide +kernel
theorem dX6_readTape_35 : decode cX6_readTape 35 = .ok (.aload_n 0, 1) := by decide +kernel
theorem dX6_readTape_36 : decode cX6_readTape 36 = .ok (.getfield 19, 3) := by decide +kernel
theorem dX6_readTape_39 : decode cX6_readTape 39 = .ok (.iconst 0, 1) := by decide +kernel
theorem dX6_readTape_40 : decode cX6_readTape 40 = .ok (.invokevirtual 39, 3) := by decide +kernel
theorem dX6_readTape_43 : decode cX6_readTape 43 = .ok (.pop, 1) := by decide +kernel
theorem dX6_readTape_44 : decode cX6_readTape 44 = .ok (.aload_n 0, 1) := by decide +kernel
theorem dX6_readTape_45 : decode cX6_readTape 45 = .ok (.getfield 23, 3) := by decide +kernel
theorem dX6_readTape_48 : decode cX6_readTape 48 = .ok (.ireturn, 1) := by decide +kernel
theorem dX6_fail_0 : decode cX6_fail 0 = .ok (.iconst 1, 1) := by decide +kernel
theorem dX6_fail_1 : decode cX6_fail 1 = .ok (.bipush 8, 2) := by decide +kernel
theorem dX6_fail_3 : decode cX6_fail 3 = .ok (.iload_n 1, 1) := by decide +kernel
theorem dX6_fail_4 : decode cX6_fail 4 = .ok (.imul, 1) := by decide +kernel
theorem dX6_fail_5 : decode cX6_fail 5 = .ok (.iadd, 1) := by decide +kernel
theorem dX6_fail_6 : decode cX6_fail 6 = .ok (.iload_n 2, 1) := by decide +kernel
theorem dX6_fail_7 : decode cX6_fail 7 = .ok (.iadd, 1) := by decide +kernel
theorem dX6_fail_8 : decode cX6_fail 8 = .ok (.istore_n 3, 1) := by decide +kernel
theorem dX6_fail_9 : decode cX6_fail 9 = .ok (.aload_n 0, 1) := by decide +kernel
theorem dX6_fail_10 : decode cX6_fail 10 = .ok (.aload_n 0, 1) := by decide +kernel
theorem dX6_fail_11 : decode cX6_fail 11 = .ok (.getfield 23, 3) := by decide +kernel
theorem dX6_fail_14 : decode cX6_fail 14 = .ok (.ifCond .ne 7, 3) := by decide +kernel
theorem dX6_fail_17 : decode cX6_fail 17 = .ok (.iload_n 3, 1) := by decide +kernel
theorem dX6_fail_18 : decode cX6_fail 18 = .ok (.goto 11, 3) := by decide +kernel
theorem dX6_fail_21 : decode cX6_fail 21 = .ok (.aload_n 0, 1) := by decide +kernel
theorem dX6_fail_22 : decode cX6_fail 22 = .ok (.getfield 23, 3) := by decide +kernel
theorem dX6_fail_25 : decode cX6_fail 25 = .ok (.iload_n 3, 1) := by decide +kernel
theorem dX6_fail_26 : decode cX6_fail 26 = .ok (.invokestatic 42, 3) := by decide +kernel
theorem dX6_fail_29 : decode cX6_fail 29 = .ok (.putfield 23, 3) := by decide +kernel
theorem dX6_fail_32 : decode cX6_fail 32 = .ok (.iconst 0, 1) := by decide +kernel
theorem dX6_fail_33 : decode cX6_fail 33 = .ok (.ireturn, 1) := by decide +kernel
theorem dX6_upNext_0 : decode cX6_upNext 0 = .ok (.iconst 0, 1) := by decide +kernel
theorem dX6_upNext_1 : decode cX6_upNext 1 = .ok (.istore_n 1, 1) := by decide +kernel
theorem dX6_upNext_2 : decode cX6_upNext 2 = .ok (.iload_n 1, 1) := by decide +kernel
theorem dX6_upNext_3 : decode cX6_upNext 3 = .ok (.sipush 400, 3) := by decide +kernel
theorem dX6_upNext_6 : decode cX6_upNext 6 = .ok (.if_icmp .ge 35, 3) := by decide +kernel
theorem dX6_upNext_9 : decode cX6_upNext 9 = .ok (.aload_n 0, 1) := by decide +kernel
theorem dX6_upNext_10 : decode cX6_upNext 10 = .ok (.getfield 9, 3) := by decide +kernel
theorem dX6_upNext_13 : decode cX6_upNext 13 = .ok (.aload_n 0, 1) := by decide +kernel
theorem dX6_upNext_14 : decode cX6_upNext 14 = .ok (.getfield 19, 3) := by decide +kernel
theorem dX6_upNext_17 : decode cX6_upNext 17 = .ok (.invokevirtual 48, 3) := by decide +kernel
theorem dX6_upNext_20 : decode cX6_upNext 20 = .ok (.bipush 32, 2) := by decide +kernel
theorem dX6_upNext_22 : decode cX6_upNext 22 = .ok (.if_icmp .ne 19, 3) := by decide +kernel
theorem dX6_upNext_25 : decode cX6_upNext 25 = .ok (.aload_n 0, 1) := by decide +kernel
theorem dX6_upNext_26 : decode cX6_upNext 26 = .ok (.dup, 1) := by decide +kernel
theorem dX6_upNext_27 : decode cX6_upNext 27 = .ok (.getfield 19, 3) := by decide +kernel
theorem dX6_upNext_30 : decode cX6_upNext 30 = .ok (.iconst 1, 1) := by decide +kernel
theorem dX6_upNext_31 : decode cX6_upNext 31 = .ok (.iadd, 1) := by decide +kernel
theorem dX6_upNext_32 : decode cX6_upNext 32 = .ok (.putfield 19, 3) := by decide +kernel
theorem dX6_upNext_35 : decode cX6_upNext 35 = .ok (.iinc 1 1, 3) := by decide +kernel
theorem dX6_upNext_38 : decode cX6_upNext 38 = .ok (.goto (-36), 3) := by decide +kernel
theorem dX6_upNext_41 : decode cX6_upNext 41 = .ok (.aload_n 0, 1) := by decide +kernel
theorem dX6_upNext_42 : decode cX6_upNext 42 = .ok (.getfield 9, 3) := by decide +kernel
theorem dX6_upNext_45 : decode cX6_upNext 45 = .ok (.aload_n 0, 1) := by decide +kernel
theorem dX6_upNext_46 : decode cX6_upNext 46 = .ok (.getfield 19, 3) := by decide +kernel
theorem dX6_upNext_49 : decode cX6_upNext 49 = .ok (.invokevirtual 48, 3) := by decide +kernel
theorem dX6_upNext_52 : decode cX6_upNext 52 = .ok (.ireturn, 1) := by decide +kernel
theorem dX6_readSign_0 : decode cX6_readSign 0 = .ok (.aload_n 0, 1) := by decide +kernel
theorem dX6_readSign_1 : decode cX6_readSign 1 = .ok (.invokevirtual 35, 3) := by decide +kernel
theorem dX6_readSign_4 : decode cX6_readSign 4 = .ok (.iload_n 1, 1) := by decide +kernel
theorem dX6_readSign_5 : decode cX6_readSign 5 = .ok (.if_icmp .eq 13, 3) := by decide +kernel
theorem dX6_readSign_8 : decode cX6_readSign 8 = .ok (.aload_n 0, 1) := by decide +kernel
theorem dX6_readSign_9 : decode cX6_readSign 9 = .ok (.aload_n 0, 1) := by decide +kernel
theorem dX6_readSign_10 : decode cX6_readSign 10 = .ok (.getfield 19, 3) := by decide +kernel
theorem dX6_readSign_13 : decode cX6_readSign 13 = .ok (.iconst 0, 1) := by decide +kernel
theorem dX6_readSign_14 : decode cX6_readSign 14 = .ok (.invokevirtual 39, 3) := by decide +kernel
theorem dX6_readSign_17 : decode cX6_readSign 17 = .ok (.ireturn, 1) := by decide +kernel
theorem dX6_readSign_18 : decode cX6_readSign 18 = .ok (.aload_n 0, 1) := by decide +kernel
theorem dX6_readSign_19 : decode cX6_readSign 19 = .ok (.dup, 1) := by decide +kernel
theorem dX6_readSign_20 : decode cX6_readSign 20 = .ok (.getfield 19, 3) := by decide +kernel
theorem dX6_readSign_23 : decode cX6_readSign 23 = .ok (.iconst 1, 1) := by decide +kernel
theorem dX6_readSign_24 : decode cX6_readSign 24 = .ok (.iadd, 1) := by decide +kernel
theorem dX6_readSign_25 : decode cX6_readSign 25 = .ok (.putfield 19, 3) := by decide +kernel
theorem dX6_readSign_28 : decode cX6_readSign 28 = .ok (.iconst 1, 1) := by decide +kernel
theorem dX6_readSign_29 : decode cX6_readSign 29 = .ok (.ireturn, 1) := by decide +kernel
theorem dX6_lettersFrom_0 : decode cX6_lettersFrom 0 = .ok (.iconst 0, 1) := by decide +kernel
theorem dX6_lettersFrom_1 : decode cX6_lettersFrom 1 = .ok (.istore_n 2, 1) := by decide +kernel
theorem dX6_lettersFrom_2 : decode cX6_lettersFrom 2 = .ok (.iload_n 2, 1) := by decide +kernel
theorem dX6_lettersFrom_3 : decode cX6_lettersFrom 3 = .ok (.sipush 400, 3) := by decide +kernel
theorem dX6_lettersFrom_6 : decode cX6_lettersFrom 6 = .ok (.if_icmp .ge 25, 3) := by decide +kernel
theorem dX6_lettersFrom_9 : decode cX6_lettersFrom 9 = .ok (.aload_n 0, 1) := by decide +kernel
theorem dX6_lettersFrom_10 : decode cX6_lettersFrom 10 = .ok (.getfield 9, 3) := by decide +kernel
theorem dX6_lettersFrom_13 : decode cX6_lettersFrom 13 = .ok (.iload_n 1, 1) := by decide +kernel
theorem dX6_lettersFrom_14 : decode cX6_lettersFrom 14 = .ok (.iload_n 2, 1) := by decide +kernel
theorem dX6_lettersFrom_15 : decode cX6_lettersFrom 15 = .ok (.iadd, 1) := by decide +kernel
theorem dX6_lettersFrom_16 : decode cX6_lettersFrom 16 = .ok (.invokevirtual 48, 3) := by decide +kernel
theorem dX6_lettersFrom_19 : decode cX6_lettersFrom 19 = .ok (.invokestatic 54, 3) := by decide +kernel
theorem dX6_lettersFrom_22 : decode cX6_lettersFrom 22 = .ok (.ifCond .eq 9, 3) := by decide +kernel
theorem dX6_lettersFrom_25 : decode cX6_lettersFrom 25 = .ok (.iinc 2 1, 3) := by decide +kernel
theorem dX6_lettersFrom_28 : decode cX6_lettersFrom 28 = .ok (.goto (-26), 3) := by decide +kernel
theorem dX6_lettersFrom_31 : decode cX6_lettersFrom 31 = .ok (.iload_n 2, 1) := by decide +kernel
theorem dX6_lettersFrom_32 : decode cX6_lettersFrom 32 = .ok (.ireturn, 1) := by decide +kernel
theorem dX6_isNamed_0 : decode cX6_isNamed 0 = .ok (.iload_n 3, 1) := by decide +kernel
theorem dX6_isNamed_1 : decode cX6_isNamed 1 = .ok (.bipush 8, 2) := by decide +kernel
theorem dX6_isNamed_3 : decode cX6_isNamed 3 = .ok (.if_icmp .lt 5, 3) := by decide +kernel
theorem dX6_isNamed_6 : decode cX6_isNamed 6 = .ok (.iconst 0, 1) := by decide +kernel
theorem dX6_isNamed_7 : decode cX6_isNamed 7 = .ok (.ireturn, 1) := by decide +kernel
theorem dX6_isNamed_8 : decode cX6_isNamed 8 = .ok (.iconst 0, 1) := by decide +kernel
theorem dX6_isNamed_9 : decode cX6_isNamed 9 = .ok (.istore 4, 2) := by decide +kernel
theorem dX6_isNamed_11 : decode cX6_isNamed 11 = .ok (.iload 4, 2) := by decide +kernel
theorem dX6_isNamed_13 : decode cX6_isNamed 13 = .ok (.iload_n 3, 1) := by decide +kernel
theorem dX6_isNamed_14 : decode cX6_isNamed 14 = .ok (.if_icmp .ge 31, 3) := by decide +kernel
theorem dX6_isNamed_17 : decode cX6_isNamed 17 = .ok (.iload_n 1, 1) := by decide +kernel
theorem dX6_isNamed_18 : decode cX6_isNamed 18 = .ok (.iload 4, 2) := by decide +kernel
theorem dX6_isNamed_20 : decode cX6_isNamed 20 = .ok (.invokestatic 58, 3) := by decide +kernel
theorem dX6_isNamed_23 : decode cX6_isNamed 23 = .ok (.aload_n 0, 1) := by decide +kernel
theorem dX6_isNamed_24 : decode cX6_isNamed 24 = .ok (.getfield 9, 3) := by decide +kernel
theorem dX6_isNamed_27 : decode cX6_isNamed 27 = .ok (.iload_n 2, 1) := by decide +kernel
theorem dX6_isNamed_28 : decode cX6_isNamed 28 = .ok (.iload 4, 2) := by decide +kernel
theorem dX6_isNamed_30 : decode cX6_isNamed 30 = .ok (.iadd, 1) := by decide +kernel
theorem dX6_isNamed_31 : decode cX6_isNamed 31 = .ok (.invokevirtual 48, 3) := by decide +kernel
theorem dX6_isNamed_34 : decode cX6_isNamed 34 = .ok (.if_icmp .eq 5, 3) := by decide +kernel
theorem dX6_isNamed_37 : decode cX6_isNamed 37 = .ok (.iconst 0, 1) := by decide +kernel
theorem dX6_isNamed_38 : decode cX6_isNamed 38 = .ok (.ireturn, 1) := by decide +kernel
theorem dX6_isNamed_39 : decode cX6_isNamed 39 = .ok (.iinc 4 1, 3) := by decide +kernel
theorem dX6_isNamed_42 : decode cX6_isNamed 42 = .ok (.goto (-31), 3) := by decide +kernel
theorem dX6_isNamed_45 : decode cX6_isNamed 45 = .ok (.iload_n 3, 1) := by decide +kernel
theorem dX6_isNamed_46 : decode cX6_isNamed 46 = .ok (.ifCond .le 17, 3) := by decide +kernel
theorem dX6_isNamed_49 : decode cX6_isNamed 49 = .ok (.iload_n 1, 1) := by decide +kernel
theorem dX6_isNamed_50 : decode cX6_isNamed 50 = .ok (.iload_n 3, 1) := by decide +kernel
theorem dX6_isNamed_51 : decode cX6_isNamed 51 = .ok (.invokestatic 58, 3) := by decide +kernel
theorem dX6_isNamed_54 : decode cX6_isNamed 54 = .ok (.bipush 32, 2) := by decide +kernel
theorem dX6_isNamed_56 : decode cX6_isNamed 56 = .ok (.if_icmp .ne 7, 3) := by decide +kernel
theorem dX6_isNamed_59 : decode cX6_isNamed 59 = .ok (.iconst 1, 1) := by decide +kernel
theorem dX6_isNamed_60 : decode cX6_isNamed 60 = .ok (.goto 4, 3) := by decide +kernel
theorem dX6_isNamed_63 : decode cX6_isNamed 63 = .ok (.iconst 0, 1) := by decide +kernel
theorem dX6_isNamed_64 : decode cX6_isNamed 64 = .ok (.ireturn, 1) := by decide +kernel
theorem dX6_kindFrom_0 : decode cX6_kindFrom 0 = .ok (.iconst 0, 1) := by decide +kernel
theorem dX6_kindFrom_1 : decode cX6_kindFrom 1 = .ok (.istore_n 3, 1) := by decide +kernel
theorem dX6_kindFrom_2 : decode cX6_kindFrom 2 = .ok (.iload_n 3, 1) := by decide +kernel
theorem dX6_kindFrom_3 : decode cX6_kindFrom 3 = .ok (.bipush 11, 2) := by decide +kernel
theorem dX6_kindFrom_5 : decode cX6_kindFrom 5 = .ok (.if_icmp .ge 21, 3) := by decide +kernel
theorem dX6_kindFrom_8 : decode cX6_kindFrom 8 = .ok (.aload_n 0, 1) := by decide +kernel
theorem dX6_kindFrom_9 : decode cX6_kindFrom 9 = .ok (.iload_n 3, 1) := by decide +kernel
theorem dX6_kindFrom_10 : decode cX6_kindFrom 10 = .ok (.iload_n 1, 1) := by decide +kernel
theorem dX6_kindFrom_11 : decode cX6_kindFrom 11 = .ok (.iload_n 2, 1) := by decide +kernel
theorem dX6_kindFrom_12 : decode cX6_kindFrom 12 = .ok (.invokevirtual 61, 3) := by decide +kernel
theorem dX6_kindFrom_15 : decode cX6_kindFrom 15 = .ok (.ifCond .eq 5, 3) := by decide +kernel
theorem dX6_kindFrom_18 : decode cX6_kindFrom 18 = .ok (.iload_n 3, 1) := by decide +kernel
theorem dX6_kindFrom_19 : decode cX6_kindFrom 19 = .ok (.ireturn, 1) := by decide +kernel
theorem dX6_kindFrom_20 : decode cX6_kindFrom 20 = .ok (.iinc 3 1, 3) := by decide +kernel
theorem dX6_kindFrom_23 : decode cX6_kindFrom 23 = .ok (.goto (-21), 3) := by decide +kernel
theorem dX6_kindFrom_26 : decode cX6_kindFrom 26 = .ok (.iconst (-1), 1) := by decide +kernel
theorem dX6_kindFrom_27 : decode cX6_kindFrom 27 = .ok (.ireturn, 1) := by decide +kernel
theorem dX6_readDeed_0 : decode cX6_readDeed 0 = .ok (.aload_n 0, 1) := by decide +kernel
theorem dX6_readDeed_1 : decode cX6_readDeed 1 = .ok (.invokevirtual 35, 3) := by decide +kernel
theorem dX6_readDeed_4 : decode cX6_readDeed 4 = .ok (.pop, 1) := by decide +kernel
theorem dX6_readDeed_5 : decode cX6_readDeed 5 = .ok (.aload_n 0, 1) := by decide +kernel
theorem dX6_readDeed_6 : decode cX6_readDeed 6 = .ok (.getfield 19, 3) := by decide +kernel
theorem dX6_readDeed_9 : decode cX6_readDeed 9 = .ok (.istore_n 3, 1) := by decide +kernel
theorem dX6_readDeed_10 : decode cX6_readDeed 10 = .ok (.aload_n 0, 1) := by decide +kernel
theorem dX6_readDeed_11 : decode cX6_readDeed 11 = .ok (.iload_n 3, 1) := by decide +kernel
theorem dX6_readDeed_12 : decode cX6_readDeed 12 = .ok (.invokevirtual 65, 3) := by decide +kernel
theorem dX6_readDeed_15 : decode cX6_readDeed 15 = .ok (.istore 4, 2) := by decide +kernel
theorem dX6_readDeed_17 : decode cX6_readDeed 17 = .ok (.aload_n 0, 1) := by decide +kernel
theorem dX6_readDeed_18 : decode cX6_readDeed 18 = .ok (.iload_n 3, 1) := by decide +kernel
theorem dX6_readDeed_19 : decode cX6_readDeed 19 = .ok (.iload 4, 2) := by decide +kernel
theorem dX6_readDeed_21 : decode cX6_readDeed 21 = .ok (.invokevirtual 68, 3) := by decide +kernel
theorem dX6_readDeed_24 : decode cX6_readDeed 24 = .ok (.istore 5, 2) := by decide +kernel
theorem dX6_readDeed_26 : decode cX6_readDeed 26 = .ok (.iload 5, 2) := by decide +kernel
theorem dX6_readDeed_28 : decode cX6_readDeed 28 = .ok (.iconst (-1), 1) := by decide +kernel
theorem dX6_readDeed_29 : decode cX6_readDeed 29 = .ok (.if_icmp .ne 10, 3) := by decide +kernel
theorem dX6_readDeed_32 : decode cX6_readDeed 32 = .ok (.aload_n 0, 1) := by decide +kernel
theorem dX6_readDeed_33 : decode cX6_readDeed 33 = .ok (.iload_n 3, 1) := by decide +kernel
theorem dX6_readDeed_34 : decode cX6_readDeed 34 = .ok (.iconst 0, 1) := by decide +kernel
theorem dX6_readDeed_35 : decode cX6_readDeed 35 = .ok (.invokevirtual 39, 3) := by decide +kernel
theorem dX6_readDeed_38 : decode cX6_readDeed 38 = .ok (.ireturn, 1) := by decide +kernel
theorem dX6_readDeed_39 : decode cX6_readDeed 39 = .ok (.iload_n 2, 1) := by decide +kernel
theorem dX6_readDeed_40 : decode cX6_readDeed 40 = .ok (.bipush 11, 2) := by decide +kernel
theorem dX6_readDeed_42 : decode cX6_readDeed 42 = .ok (.if_icmp .le 10, 3) := by decide +kernel
theorem dX6_readDeed_45 : decode cX6_readDeed 45 = .ok (.aload_n 0, 1) := by decide +kernel
theorem dX6_readDeed_46 : decode cX6_readDeed 46 = .ok (.iload_n 3, 1) := by decide +kernel
theorem dX6_readDeed_47 : decode cX6_readDeed 47 = .ok (.iconst 2, 1) := by decide +kernel
theorem dX6_readDeed_48 : decode cX6_readDeed 48 = .ok (.invokevirtual 39, 3) := by decide +kernel
theorem dX6_readDeed_51 : decode cX6_readDeed 51 = .ok (.ireturn, 1) := by decide +kernel
theorem dX6_readDeed_52 : decode cX6_readDeed 52 = .ok (.aload_n 0, 1) := by decide +kernel
theorem dX6_readDeed_53 : decode cX6_readDeed 53 = .ok (.getfield 15, 3) := by decide +kernel
theorem dX6_readDeed_56 : decode cX6_readDeed 56 = .ok (.iload 5, 2) := by decide +kernel
theorem dX6_readDeed_58 : decode cX6_readDeed 58 = .ok (.iload_n 1, 1) := by decide +kernel
theorem dX6_readDeed_59 : decode cX6_readDeed 59 = .ok (.invokevirtual 71, 3) := by decide +kernel
theorem dX6_readDeed_62 : decode cX6_readDeed 62 = .ok (.istore 6, 2) := by decide +kernel
theorem dX6_readDeed_64 : decode cX6_readDeed 64 = .ok (.iload 6, 2) := by decide +kernel
theorem dX6_readDeed_66 : decode cX6_readDeed 66 = .ok (.iconst (-1), 1) := by decide +kernel
theorem dX6_readDeed_67 : decode cX6_readDeed 67 = .ok (.if_icmp .ne 10, 3) := by decide +kernel
theorem dX6_readDeed_70 : decode cX6_readDeed 70 = .ok (.aload_n 0, 1) := by decide +kernel
theorem dX6_readDeed_71 : decode cX6_readDeed 71 = .ok (.iload_n 3, 1) := by decide +kernel
theorem dX6_readDeed_72 : decode cX6_readDeed 72 = .ok (.iconst 3, 1) := by decide +kernel
theorem dX6_readDeed_73 : decode cX6_readDeed 73 = .ok (.invokevirtual 39, 3) := by decide +kernel
theorem dX6_readDeed_76 : decode cX6_readDeed 76 = .ok (.ireturn, 1) := by decide +kernel
theorem dX6_readDeed_77 : decode cX6_readDeed 77 = .ok (.aload_n 0, 1) := by decide +kernel
theorem dX6_readDeed_78 : decode cX6_readDeed 78 = .ok (.iload_n 3, 1) := by decide +kernel
theorem dX6_readDeed_79 : decode cX6_readDeed 79 = .ok (.iload 4, 2) := by decide +kernel
theorem dX6_readDeed_81 : decode cX6_readDeed 81 = .ok (.iadd, 1) := by decide +kernel
theorem dX6_readDeed_82 : decode cX6_readDeed 82 = .ok (.putfield 19, 3) := by decide +kernel
theorem dX6_readDeed_85 : decode cX6_readDeed 85 = .ok (.iload 5, 2) := by decide +kernel
theorem dX6_readDeed_87 : decode cX6_readDeed 87 = .ok (.invokestatic 74, 3) := by decide +kernel
theorem dX6_readDeed_90 : decode cX6_readDeed 90 = .ok (.ifCond .eq 14, 3) := by decide +kernel
theorem dX6_readDeed_93 : decode cX6_readDeed 93 = .ok (.aload_n 0, 1) := by decide +kernel
theorem dX6_readDeed_94 : decode cX6_readDeed 94 = .ok (.iload 6, 2) := by decide +kernel
theorem dX6_readDeed_96 : decode cX6_readDeed 96 = .ok (.invokevirtual 77, 3) := by decide +kernel
theorem dX6_readDeed_99 : decode cX6_readDeed 99 = .ok (.ifCond .ne 5, 3) := by decide +kernel
theorem dX6_readDeed_102 : decode cX6_readDeed 102 = .ok (.iconst 0, 1) := by decide +kernel
theorem dX6_readDeed_103 : decode cX6_readDeed 103 = .ok (.ireturn, 1) := by decide +kernel
theorem dX6_readDeed_104 : decode cX6_readDeed 104 = .ok (.iload 5, 2) := by decide +kernel
theorem dX6_readDeed_106 : decode cX6_readDeed 106 = .ok (.invokestatic 80, 3) := by decide +kernel
theorem dX6_readDeed_109 : decode cX6_readDeed 109 = .ok (.ifCond .eq 16, 3) := by decide +kernel
theorem dX6_readDeed_112 : decode cX6_readDeed 112 = .ok (.aload_n 0, 1) := by decide +kernel
theorem dX6_readDeed_113 : decode cX6_readDeed 113 = .ok (.iload 5, 2) := by decide +kernel
theorem dX6_readDeed_115 : decode cX6_readDeed 115 = .ok (.iload 6, 2) := by decide +kernel
theorem dX6_readDeed_117 : decode cX6_readDeed 117 = .ok (.invokevirtual 83, 3) := by decide +kernel
theorem dX6_readDeed_120 : decode cX6_readDeed 120 = .ok (.ifCond .ne 5, 3) := by decide +kernel
theorem dX6_readDeed_123 : decode cX6_readDeed 123 = .ok (.iconst 0, 1) := by decide +kernel
theorem dX6_readDeed_124 : decode cX6_readDeed 124 = .ok (.ireturn, 1) := by decide +kernel
theorem dX6_readDeed_125 : decode cX6_readDeed 125 = .ok (.aload_n 0, 1) := by decide +kernel
theorem dX6_readDeed_126 : decode cX6_readDeed 126 = .ok (.iload 5, 2) := by decide +kernel
theorem dX6_readDeed_128 : decode cX6_readDeed 128 = .ok (.iload 6, 2) := by decide +kernel
theorem dX6_readDeed_130 : decode cX6_readDeed 130 = .ok (.iload_n 2, 1) := by decide +kernel
theorem dX6_readDeed_131 : decode cX6_readDeed 131 = .ok (.invokevirtual 86, 3) := by decide +kernel
theorem dX6_readDeed_134 : decode cX6_readDeed 134 = .ok (.ireturn, 1) := by decide +kernel
theorem dX6_readDeeds_0 : decode cX6_readDeeds 0 = .ok (.iload_n 1, 1) := by decide +kernel
theorem dX6_readDeeds_1 : decode cX6_readDeeds 1 = .ok (.invokestatic 89, 3) := by decide +kernel
theorem dX6_readDeeds_4 : decode cX6_readDeeds 4 = .ok (.ifCond .ne 5, 3) := by decide +kernel
theorem dX6_readDeeds_7 : decode cX6_readDeeds 7 = .ok (.iconst 1, 1) := by decide +kernel
theorem dX6_readDeeds_8 : decode cX6_readDeeds 8 = .ok (.ireturn, 1) := by decide +kernel
theorem dX6_readDeeds_9 : decode cX6_readDeeds 9 = .ok (.iload_n 1, 1) := by decide +kernel
theorem dX6_readDeeds_10 : decode cX6_readDeeds 10 = .ok (.invokestatic 92, 3) := by decide +kernel
theorem dX6_readDeeds_13 : decode cX6_readDeeds 13 = .ok (.ifCond .ne 12, 3) := by decide +kernel
theorem dX6_readDeeds_16 : decode cX6_readDeeds 16 = .ok (.aload_n 0, 1) := by decide +kernel
theorem dX6_readDeeds_17 : decode cX6_readDeeds 17 = .ok (.iload_n 2, 1) := by decide +kernel
theorem dX6_readDeeds_18 : decode cX6_readDeeds 18 = .ok (.iload_n 3, 1) := by decide +kernel
theorem dX6_readDeeds_19 : decode cX6_readDeeds 19 = .ok (.iconst 1, 1) := by decide +kernel
theorem dX6_readDeeds_20 : decode cX6_readDeeds 20 = .ok (.iadd, 1) := by decide +kernel
theorem dX6_readDeeds_21 : decode cX6_readDeeds 21 = .ok (.invokevirtual 31, 3) := by decide +kernel
theorem dX6_readDeeds_24 : decode cX6_readDeeds 24 = .ok (.ireturn, 1) := by decide +kernel
theorem dX6_readDeeds_25 : decode cX6_readDeeds 25 = .ok (.aload_n 0, 1) := by decide +kernel
theorem dX6_readDeeds_26 : decode cX6_readDeeds 26 = .ok (.bipush 40, 2) := by decide +kernel
theorem dX6_readDeeds_28 : decode cX6_readDeeds 28 = .ok (.invokevirtual 95, 3) := by decide +kernel
theorem dX6_readDeeds_31 : decode cX6_readDeeds 31 = .ok (.ifCond .eq 47, 3) := by decide +kernel
theorem dX6_readDeeds_34 : decode cX6_readDeeds 34 = .ok (.aload_n 0, 1) := by decide +kernel
theorem dX6_readDeeds_35 : decode cX6_readDeeds 35 = .ok (.iload_n 2, 1) := by decide +kernel
theorem dX6_readDeeds_36 : decode cX6_readDeeds 36 = .ok (.iload_n 3, 1) := by decide +kernel
theorem dX6_readDeeds_37 : decode cX6_readDeeds 37 = .ok (.iconst 1, 1) := by decide +kernel
theorem dX6_readDeeds_38 : decode cX6_readDeeds 38 = .ok (.iadd, 1) := by decide +kernel
theorem dX6_readDeeds_39 : decode cX6_readDeeds 39 = .ok (.invokevirtual 31, 3) := by decide +kernel
theorem dX6_readDeeds_42 : decode cX6_readDeeds 42 = .ok (.ifCond .eq 36, 3) := by decide +kernel
theorem dX6_readDeeds_45 : decode cX6_readDeeds 45 = .ok (.aload_n 0, 1) := by decide +kernel
theorem dX6_readDeeds_46 : decode cX6_readDeeds 46 = .ok (.bipush 44, 2) := by decide +kernel
theorem dX6_readDeeds_48 : decode cX6_readDeeds 48 = .ok (.invokevirtual 95, 3) := by decide +kernel
theorem dX6_readDeeds_51 : decode cX6_readDeeds 51 = .ok (.ifCond .eq 27, 3) := by decide +kernel
theorem dX6_readDeeds_54 : decode cX6_readDeeds 54 = .ok (.aload_n 0, 1) := by decide +kernel
theorem dX6_readDeeds_55 : decode cX6_readDeeds 55 = .ok (.iload_n 2, 1) := by decide +kernel
theorem dX6_readDeeds_56 : decode cX6_readDeeds 56 = .ok (.iload_n 3, 1) := by decide +kernel
theorem dX6_readDeeds_57 : decode cX6_readDeeds 57 = .ok (.iconst 1, 1) := by decide +kernel
theorem dX6_readDeeds_58 : decode cX6_readDeeds 58 = .ok (.iadd, 1) := by decide +kernel
theorem dX6_readDeeds_59 : decode cX6_readDeeds 59 = .ok (.invokevirtual 31, 3) := by decide +kernel
theorem dX6_readDeeds_62 : decode cX6_readDeeds 62 = .ok (.ifCond .eq 16, 3) := by decide +kernel
theorem dX6_readDeeds_65 : decode cX6_readDeeds 65 = .ok (.aload_n 0, 1) := by decide +kernel
theorem dX6_readDeeds_66 : decode cX6_readDeeds 66 = .ok (.bipush 41, 2) := by decide +kernel
theorem dX6_readDeeds_68 : decode cX6_readDeeds 68 = .ok (.invokevirtual 95, 3) := by decide +kernel
theorem dX6_readDeeds_71 : decode cX6_readDeeds 71 = .ok (.ifCond .eq 7, 3) := by decide +kernel
theorem dX6_readDeeds_74 : decode cX6_readDeeds 74 = .ok (.iconst 1, 1) := by decide +kernel
theorem dX6_readDeeds_75 : decode cX6_readDeeds 75 = .ok (.goto 4, 3) := by decide +kernel
theorem dX6_readDeeds_78 : decode cX6_readDeeds 78 = .ok (.iconst 0, 1) := by decide +kernel
theorem dX6_readDeeds_79 : decode cX6_readDeeds 79 = .ok (.ireturn, 1) := by decide +kernel
theorem dX6_readN_0 : decode cX6_readN 0 = .ok (.aload_n 0, 1) := by decide +kernel
theorem dX6_readN_1 : decode cX6_readN 1 = .ok (.invokevirtual 35, 3) := by decide +kernel
theorem dX6_readN_4 : decode cX6_readN 4 = .ok (.pop, 1) := by decide +kernel
theorem dX6_readN_5 : decode cX6_readN 5 = .ok (.aload_n 0, 1) := by decide +kernel
theorem dX6_readN_6 : decode cX6_readN 6 = .ok (.invokevirtual 98, 3) := by decide +kernel
theorem dX6_readN_9 : decode cX6_readN 9 = .ok (.istore_n 2, 1) := by decide +kernel
theorem dX6_readN_10 : decode cX6_readN 10 = .ok (.aload_n 0, 1) := by decide +kernel
theorem dX6_readN_11 : decode cX6_readN 11 = .ok (.getfield 15, 3) := by decide +kernel
theorem dX6_readN_14 : decode cX6_readN 14 = .ok (.iload_n 1, 1) := by decide +kernel
theorem dX6_readN_15 : decode cX6_readN 15 = .ok (.iconst 2, 1) := by decide +kernel
theorem dX6_readN_16 : decode cX6_readN 16 = .ok (.iload_n 2, 1) := by decide +kernel
theorem dX6_readN_17 : decode cX6_readN 17 = .ok (.invokevirtual 101, 3) := by decide +kernel
theorem dX6_readN_20 : decode cX6_readN 20 = .ok (.iload_n 2, 1) := by decide +kernel
theorem dX6_readN_21 : decode cX6_readN 21 = .ok (.iconst (-1), 1) := by decide +kernel
theorem dX6_readN_22 : decode cX6_readN 22 = .ok (.if_icmp .eq 7, 3) := by decide +kernel
theorem dX6_readN_25 : decode cX6_readN 25 = .ok (.iconst 1, 1) := by decide +kernel
theorem dX6_readN_26 : decode cX6_readN 26 = .ok (.goto 4, 3) := by decide +kernel
theorem dX6_readN_29 : decode cX6_readN 29 = .ok (.iconst 0, 1) := by decide +kernel
theorem dX6_readN_30 : decode cX6_readN 30 = .ok (.ireturn, 1) := by decide +kernel
theorem dX6_readNumber_0 : decode cX6_readNumber 0 = .ok (.aload_n 0, 1) := by decide +kernel
theorem dX6_readNumber_1 : decode cX6_readNumber 1 = .ok (.getfield 19, 3) := by decide +kernel
theorem dX6_readNumber_4 : decode cX6_readNumber 4 = .ok (.istore_n 1, 1) := by decide +kernel
theorem dX6_readNumber_5 : decode cX6_readNumber 5 = .ok (.iconst 0, 1) := by decide +kernel
theorem dX6_readNumber_6 : decode cX6_readNumber 6 = .ok (.istore_n 2, 1) := by decide +kernel
theorem dX6_readNumber_7 : decode cX6_readNumber 7 = .ok (.iconst 0, 1) := by decide +kernel
theorem dX6_readNumber_8 : decode cX6_readNumber 8 = .ok (.istore_n 3, 1) := by decide +kernel
theorem dX6_readNumber_9 : decode cX6_readNumber 9 = .ok (.iload_n 3, 1) := by decide +kernel
theorem dX6_readNumber_10 : decode cX6_readNumber 10 = .ok (.sipush 400, 3) := by decide +kernel
theorem dX6_readNumber_13 : decode cX6_readNumber 13 = .ok (.if_icmp .ge 53, 3) := by decide +kernel
theorem dX6_readNumber_16 : decode cX6_readNumber 16 = .ok (.aload_n 0, 1) := by decide +kernel
theorem dX6_readNumber_17 : decode cX6_readNumber 17 = .ok (.getfield 9, 3) := by decide +kernel
theorem dX6_readNumber_20 : decode cX6_readNumber 20 = .ok (.iload_n 1, 1) := by decide +kernel
theorem dX6_readNumber_21 : decode cX6_readNumber 21 = .ok (.iload_n 3, 1) := by decide +kernel
theorem dX6_readNumber_22 : decode cX6_readNumber 22 = .ok (.iadd, 1) := by decide +kernel
theorem dX6_readNumber_23 : decode cX6_readNumber 23 = .ok (.invokevirtual 48, 3) := by decide +kernel
theorem dX6_readNumber_26 : decode cX6_readNumber 26 = .ok (.invokestatic 105, 3) := by decide +kernel
theorem dX6_readNumber_29 : decode cX6_readNumber 29 = .ok (.ifCond .eq 37, 3) := by decide +kernel
theorem dX6_readNumber_32 : decode cX6_readNumber 32 = .ok (.iload_n 3, 1) := by decide +kernel
theorem dX6_readNumber_33 : decode cX6_readNumber 33 = .ok (.iconst 5, 1) := by decide +kernel
theorem dX6_readNumber_34 : decode cX6_readNumber 34 = .ok (.if_icmp .ge 24, 3) := by decide +kernel
theorem dX6_readNumber_37 : decode cX6_readNumber 37 = .ok (.iload_n 2, 1) := by decide +kernel
theorem dX6_readNumber_38 : decode cX6_readNumber 38 = .ok (.bipush 10, 2) := by decide +kernel
theorem dX6_readNumber_40 : decode cX6_readNumber 40 = .ok (.imul, 1) := by decide +kernel
theorem dX6_readNumber_41 : decode cX6_readNumber 41 = .ok (.aload_n 0, 1) := by decide +kernel
theorem dX6_readNumber_42 : decode cX6_readNumber 42 = .ok (.getfield 9, 3) := by decide +kernel
theorem dX6_readNumber_45 : decode cX6_readNumber 45 = .ok (.iload_n 1, 1) := by decide +kernel
theorem dX6_readNumber_46 : decode cX6_readNumber 46 = .ok (.iload_n 3, 1) := by decide +kernel
theorem dX6_readNumber_47 : decode cX6_readNumber 47 = .ok (.iadd, 1) := by decide +kernel
theorem dX6_readNumber_48 : decode cX6_readNumber 48 = .ok (.invokevirtual 48, 3) := by decide +kernel
theorem dX6_readNumber_51 : decode cX6_readNumber 51 = .ok (.iadd, 1) := by decide +kernel
theorem dX6_readNumber_52 : decode cX6_readNumber 52 = .ok (.bipush 48, 2) := by decide +kernel
theorem dX6_readNumber_54 : decode cX6_readNumber 54 = .ok (.isub, 1) := by decide +kernel
theorem dX6_readNumber_55 : decode cX6_readNumber 55 = .ok (.goto 4, 3) := by decide +kernel
theorem dX6_readNumber_58 : decode cX6_readNumber 58 = .ok (.iload_n 2, 1) := by decide +kernel
theorem dX6_readNumber_59 : decode cX6_readNumber 59 = .ok (.istore_n 2, 1) := by decide +kernel
theorem dX6_readNumber_60 : decode cX6_readNumber 60 = .ok (.iinc 3 1, 3) := by decide +kernel
theorem dX6_readNumber_63 : decode cX6_readNumber 63 = .ok (.goto (-54), 3) := by decide +kernel
theorem dX6_readNumber_66 : decode cX6_readNumber 66 = .ok (.iload_n 3, 1) := by decide +kernel
theorem dX6_readNumber_67 : decode cX6_readNumber 67 = .ok (.ifCond .eq 8, 3) := by decide +kernel
theorem dX6_readNumber_70 : decode cX6_readNumber 70 = .ok (.iload_n 3, 1) := by decide +kernel
theorem dX6_readNumber_71 : decode cX6_readNumber 71 = .ok (.iconst 5, 1) := by decide +kernel
theorem dX6_readNumber_72 : decode cX6_readNumber 72 = .ok (.if_icmp .le 20, 3) := by decide +kernel
theorem dX6_readNumber_75 : decode cX6_readNumber 75 = .ok (.aload_n 0, 1) := by decide +kernel
theorem dX6_readNumber_76 : decode cX6_readNumber 76 = .ok (.iload_n 1, 1) := by decide +kernel
theorem dX6_readNumber_77 : decode cX6_readNumber 77 = .ok (.iload_n 3, 1) := by decide +kernel
theorem dX6_readNumber_78 : decode cX6_readNumber 78 = .ok (.ifCond .ne 7, 3) := by decide +kernel
theorem dX6_readNumber_81 : decode cX6_readNumber 81 = .ok (.iconst 0, 1) := by decide +kernel
theorem dX6_readNumber_82 : decode cX6_readNumber 82 = .ok (.goto 4, 3) := by decide +kernel
theorem dX6_readNumber_85 : decode cX6_readNumber 85 = .ok (.iconst 1, 1) := by decide +kernel
theorem dX6_readNumber_86 : decode cX6_readNumber 86 = .ok (.invokevirtual 39, 3) := by decide +kernel
theorem dX6_readNumber_89 : decode cX6_readNumber 89 = .ok (.pop, 1) := by decide +kernel
theorem dX6_readNumber_90 : decode cX6_readNumber 90 = .ok (.iconst (-1), 1) := by decide +kernel
theorem dX6_readNumber_91 : decode cX6_readNumber 91 = .ok (.ireturn, 1) := by decide +kernel
theorem dX6_readNumber_92 : decode cX6_readNumber 92 = .ok (.aload_n 0, 1) := by decide +kernel
theorem dX6_readNumber_93 : decode cX6_readNumber 93 = .ok (.iload_n 1, 1) := by decide +kernel
theorem dX6_readNumber_94 : decode cX6_readNumber 94 = .ok (.iload_n 3, 1) := by decide +kernel
theorem dX6_readNumber_95 : decode cX6_readNumber 95 = .ok (.iadd, 1) := by decide +kernel
theorem dX6_readNumber_96 : decode cX6_readNumber 96 = .ok (.putfield 19, 3) := by decide +kernel
theorem dX6_readNumber_99 : decode cX6_readNumber 99 = .ok (.iload_n 2, 1) := by decide +kernel
theorem dX6_readNumber_100 : decode cX6_readNumber 100 = .ok (.ireturn, 1) := by decide +kernel
theorem dX6_readSums_0 : decode cX6_readSums 0 = .ok (.aload_n 0, 1) := by decide +kernel
theorem dX6_readSums_1 : decode cX6_readSums 1 = .ok (.getfield 15, 3) := by decide +kernel
theorem dX6_readSums_4 : decode cX6_readSums 4 = .ok (.iload_n 2, 1) := by decide +kernel
theorem dX6_readSums_5 : decode cX6_readSums 5 = .ok (.iconst 5, 1) := by decide +kernel
theorem dX6_readSums_6 : decode cX6_readSums 6 = .ok (.aload_n 0, 1) := by decide +kernel
theorem dX6_readSums_7 : decode cX6_readSums 7 = .ok (.getfield 15, 3) := by decide +kernel
theorem dX6_readSums_10 : decode cX6_readSums 10 = .ok (.invokevirtual 108, 3) := by decide +kernel
theorem dX6_readSums_13 : decode cX6_readSums 13 = .ok (.invokevirtual 101, 3) := by decide +kernel
theorem dX6_readSums_16 : decode cX6_readSums 16 = .ok (.aload_n 0, 1) := by decide +kernel
theorem dX6_readSums_17 : decode cX6_readSums 17 = .ok (.invokevirtual 111, 3) := by decide +kernel
theorem dX6_readSums_20 : decode cX6_readSums 20 = .ok (.ifCond .ne 5, 3) := by decide +kernel
theorem dX6_readSums_23 : decode cX6_readSums 23 = .ok (.iconst 0, 1) := by decide +kernel
theorem dX6_readSums_24 : decode cX6_readSums 24 = .ok (.ireturn, 1) := by decide +kernel
theorem dX6_readSums_25 : decode cX6_readSums 25 = .ok (.aload_n 0, 1) := by decide +kernel
theorem dX6_readSums_26 : decode cX6_readSums 26 = .ok (.getfield 15, 3) := by decide +kernel
theorem dX6_readSums_29 : decode cX6_readSums 29 = .ok (.iload_n 2, 1) := by decide +kernel
theorem dX6_readSums_30 : decode cX6_readSums 30 = .ok (.bipush 6, 2) := by decide +kernel
theorem dX6_readSums_32 : decode cX6_readSums 32 = .ok (.aload_n 0, 1) := by decide +kernel
theorem dX6_readSums_33 : decode cX6_readSums 33 = .ok (.getfield 15, 3) := by decide +kernel
theorem dX6_readSums_36 : decode cX6_readSums 36 = .ok (.invokevirtual 108, 3) := by decide +kernel
theorem dX6_readSums_39 : decode cX6_readSums 39 = .ok (.invokevirtual 101, 3) := by decide +kernel
theorem dX6_readSums_42 : decode cX6_readSums 42 = .ok (.iload_n 1, 1) := by decide +kernel
theorem dX6_readSums_43 : decode cX6_readSums 43 = .ok (.invokestatic 115, 3) := by decide +kernel
theorem dX6_readSums_46 : decode cX6_readSums 46 = .ok (.ifCond .eq 20, 3) := by decide +kernel
theorem dX6_readSums_49 : decode cX6_readSums 49 = .ok (.aload_n 0, 1) := by decide +kernel
theorem dX6_readSums_50 : decode cX6_readSums 50 = .ok (.iload_n 2, 1) := by decide +kernel
theorem dX6_readSums_51 : decode cX6_readSums 51 = .ok (.invokevirtual 118, 3) := by decide +kernel
theorem dX6_readSums_54 : decode cX6_readSums 54 = .ok (.ifCond .eq 10, 3) := by decide +kernel
theorem dX6_readSums_57 : decode cX6_readSums 57 = .ok (.aload_n 0, 1) := by decide +kernel
theorem dX6_readSums_58 : decode cX6_readSums 58 = .ok (.invokevirtual 111, 3) := by decide +kernel
theorem dX6_readSums_61 : decode cX6_readSums 61 = .ok (.ifCond .ne 5, 3) := by decide +kernel
theorem dX6_readSums_64 : decode cX6_readSums 64 = .ok (.iconst 0, 1) := by decide +kernel
theorem dX6_readSums_65 : decode cX6_readSums 65 = .ok (.ireturn, 1) := by decide +kernel
theorem dX6_readSums_66 : decode cX6_readSums 66 = .ok (.aload_n 0, 1) := by decide +kernel
theorem dX6_readSums_67 : decode cX6_readSums 67 = .ok (.getfield 15, 3) := by decide +kernel
theorem dX6_readSums_70 : decode cX6_readSums 70 = .ok (.iload_n 2, 1) := by decide +kernel
theorem dX6_readSums_71 : decode cX6_readSums 71 = .ok (.bipush 7, 2) := by decide +kernel
theorem dX6_readSums_73 : decode cX6_readSums 73 = .ok (.aload_n 0, 1) := by decide +kernel
theorem dX6_readSums_74 : decode cX6_readSums 74 = .ok (.getfield 15, 3) := by decide +kernel
theorem dX6_readSums_77 : decode cX6_readSums 77 = .ok (.invokevirtual 108, 3) := by decide +kernel
theorem dX6_readSums_80 : decode cX6_readSums 80 = .ok (.invokevirtual 101, 3) := by decide +kernel
theorem dX6_readSums_83 : decode cX6_readSums 83 = .ok (.aload_n 0, 1) := by decide +kernel
theorem dX6_readSums_84 : decode cX6_readSums 84 = .ok (.bipush 58, 2) := by decide +kernel
theorem dX6_readSums_86 : decode cX6_readSums 86 = .ok (.invokevirtual 95, 3) := by decide +kernel
theorem dX6_readSums_89 : decode cX6_readSums 89 = .ok (.ireturn, 1) := by decide +kernel
theorem dX6_readRelation_0 : decode cX6_readRelation 0 = .ok (.aload_n 0, 1) := by decide +kernel
theorem dX6_readRelation_1 : decode cX6_readRelation 1 = .ok (.invokevirtual 35, 3) := by decide +kernel
theorem dX6_readRelation_4 : decode cX6_readRelation 4 = .ok (.istore_n 2, 1) := by decide +kernel
theorem dX6_readRelation_5 : decode cX6_readRelation 5 = .ok (.iload_n 2, 1) := by decide +kernel
theorem dX6_readRelation_6 : decode cX6_readRelation 6 = .ok (.bipush 60, 2) := by decide +kernel
theorem dX6_readRelation_8 : decode cX6_readRelation 8 = .ok (.if_icmp .ne 7, 3) := by decide +kernel
theorem dX6_readRelation_11 : decode cX6_readRelation 11 = .ok (.iconst 1, 1) := by decide +kernel
theorem dX6_readRelation_12 : decode cX6_readRelation 12 = .ok (.goto 24, 3) := by decide +kernel
theorem dX6_readRelation_15 : decode cX6_readRelation 15 = .ok (.iload_n 2, 1) := by decide +kernel
theorem dX6_readRelation_16 : decode cX6_readRelation 16 = .ok (.bipush 62, 2) := by decide +kernel
theorem dX6_readRelation_18 : decode cX6_readRelation 18 = .ok (.if_icmp .ne 7, 3) := by decide +kernel
theorem dX6_readRelation_21 : decode cX6_readRelation 21 = .ok (.iconst 4, 1) := by decide +kernel
theorem dX6_readRelation_22 : decode cX6_readRelation 22 = .ok (.goto 14, 3) := by decide +kernel
theorem dX6_readRelation_25 : decode cX6_readRelation 25 = .ok (.iload_n 2, 1) := by decide +kernel
theorem dX6_readRelation_26 : decode cX6_readRelation 26 = .ok (.bipush 61, 2) := by decide +kernel
theorem dX6_readRelation_28 : decode cX6_readRelation 28 = .ok (.if_icmp .ne 7, 3) := by decide +kernel
theorem dX6_readRelation_31 : decode cX6_readRelation 31 = .ok (.iconst 2, 1) := by decide +kernel
theorem dX6_readRelation_32 : decode cX6_readRelation 32 = .ok (.goto 4, 3) := by decide +kernel
theorem dX6_readRelation_35 : decode cX6_readRelation 35 = .ok (.iconst 0, 1) := by decide +kernel
theorem dX6_readRelation_36 : decode cX6_readRelation 36 = .ok (.istore_n 3, 1) := by decide +kernel
theorem dX6_readRelation_37 : decode cX6_readRelation 37 = .ok (.iload_n 3, 1) := by decide +kernel
theorem dX6_readRelation_38 : decode cX6_readRelation 38 = .ok (.ifCond .ne 13, 3) := by decide +kernel
theorem dX6_readRelation_41 : decode cX6_readRelation 41 = .ok (.aload_n 0, 1) := by decide +kernel
theorem dX6_readRelation_42 : decode cX6_readRelation 42 = .ok (.aload_n 0, 1) := by decide +kernel
theorem dX6_readRelation_43 : decode cX6_readRelation 43 = .ok (.getfield 19, 3) := by decide +kernel
theorem dX6_readRelation_46 : decode cX6_readRelation 46 = .ok (.iconst 0, 1) := by decide +kernel
theorem dX6_readRelation_47 : decode cX6_readRelation 47 = .ok (.invokevirtual 39, 3) := by decide +kernel
theorem dX6_readRelation_50 : decode cX6_readRelation 50 = .ok (.ireturn, 1) := by decide +kernel
theorem dX6_readRelation_51 : decode cX6_readRelation 51 = .ok (.aload_n 0, 1) := by decide +kernel
theorem dX6_readRelation_52 : decode cX6_readRelation 52 = .ok (.dup, 1) := by decide +kernel
theorem dX6_readRelation_53 : decode cX6_readRelation 53 = .ok (.getfield 19, 3) := by decide +kernel
theorem dX6_readRelation_56 : decode cX6_readRelation 56 = .ok (.iconst 1, 1) := by decide +kernel
theorem dX6_readRelation_57 : decode cX6_readRelation 57 = .ok (.iadd, 1) := by decide +kernel
theorem dX6_readRelation_58 : decode cX6_readRelation 58 = .ok (.putfield 19, 3) := by decide +kernel
theorem dX6_readRelation_61 : decode cX6_readRelation 61 = .ok (.iload_n 3, 1) := by decide +kernel
theorem dX6_readRelation_62 : decode cX6_readRelation 62 = .ok (.iconst 2, 1) := by decide +kernel
theorem dX6_readRelation_63 : decode cX6_readRelation 63 = .ok (.if_icmp .eq 33, 3) := by decide +kernel
theorem dX6_readRelation_66 : decode cX6_readRelation 66 = .ok (.aload_n 0, 1) := by decide +kernel
theorem dX6_readRelation_67 : decode cX6_readRelation 67 = .ok (.getfield 9, 3) := by decide +kernel
theorem dX6_readRelation_70 : decode cX6_readRelation 70 = .ok (.aload_n 0, 1) := by decide +kernel
theorem dX6_readRelation_71 : decode cX6_readRelation 71 = .ok (.getfield 19, 3) := by decide +kernel
theorem dX6_readRelation_74 : decode cX6_readRelation 74 = .ok (.invokevirtual 48, 3) := by decide +kernel
theorem dX6_readRelation_77 : decode cX6_readRelation 77 = .ok (.bipush 61, 2) := by decide +kernel
theorem dX6_readRelation_79 : decode cX6_readRelation 79 = .ok (.if_icmp .ne 17, 3) := by decide +kernel
theorem dX6_readRelation_82 : decode cX6_readRelation 82 = .ok (.iload_n 3, 1) := by decide +kernel
theorem dX6_readRelation_83 : decode cX6_readRelation 83 = .ok (.iconst 2, 1) := by decide +kernel
theorem dX6_readRelation_84 : decode cX6_readRelation 84 = .ok (.ior, 1) := by decide +kernel
theorem dX6_readRelation_85 : decode cX6_readRelation 85 = .ok (.istore_n 3, 1) := by decide +kernel
theorem dX6_readRelation_86 : decode cX6_readRelation 86 = .ok (.aload_n 0, 1) := by decide +kernel
theorem dX6_readRelation_87 : decode cX6_readRelation 87 = .ok (.dup, 1) := by decide +kernel
theorem dX6_readRelation_88 : decode cX6_readRelation 88 = .ok (.getfield 19, 3) := by decide +kernel
theorem dX6_readRelation_91 : decode cX6_readRelation 91 = .ok (.iconst 1, 1) := by decide +kernel
theorem dX6_readRelation_92 : decode cX6_readRelation 92 = .ok (.iadd, 1) := by decide +kernel
theorem dX6_readRelation_93 : decode cX6_readRelation 93 = .ok (.putfield 19, 3) := by decide +kernel
theorem dX6_readRelation_96 : decode cX6_readRelation 96 = .ok (.aload_n 0, 1) := by decide +kernel
theorem dX6_readRelation_97 : decode cX6_readRelation 97 = .ok (.getfield 15, 3) := by decide +kernel
theorem dX6_readRelation_100 : decode cX6_readRelation 100 = .ok (.iload_n 1, 1) := by decide +kernel
theorem dX6_readRelation_101 : decode cX6_readRelation 101 = .ok (.bipush 8, 2) := by decide +kernel
theorem dX6_readRelation_103 : decode cX6_readRelation 103 = .ok (.iload_n 3, 1) := by decide +kernel
theorem dX6_readRelation_104 : decode cX6_readRelation 104 = .ok (.invokevirtual 101, 3) := by decide +kernel
theorem dX6_readRelation_107 : decode cX6_readRelation 107 = .ok (.iconst 1, 1) := by decide +kernel
theorem dX6_readRelation_108 : decode cX6_readRelation 108 = .ok (.ireturn, 1) := by decide +kernel
theorem dX6_readSum_0 : decode cX6_readSum 0 = .ok (.bipush 43, 2) := by decide +kernel
theorem dX6_readSum_2 : decode cX6_readSum 2 = .ok (.istore_n 1, 1) := by decide +kernel
theorem dX6_readSum_3 : decode cX6_readSum 3 = .ok (.iconst 0, 1) := by decide +kernel
theorem dX6_readSum_4 : decode cX6_readSum 4 = .ok (.istore_n 2, 1) := by decide +kernel
theorem dX6_readSum_5 : decode cX6_readSum 5 = .ok (.iload_n 2, 1) := by decide +kernel
theorem dX6_readSum_6 : decode cX6_readSum 6 = .ok (.bipush 40, 2) := by decide +kernel
theorem dX6_readSum_8 : decode cX6_readSum 8 = .ok (.if_icmp .gt 54, 3) := by decide +kernel
theorem dX6_readSum_11 : decode cX6_readSum 11 = .ok (.aload_n 0, 1) := by decide +kernel
theorem dX6_readSum_12 : decode cX6_readSum 12 = .ok (.iload_n 1, 1) := by decide +kernel
theorem dX6_readSum_13 : decode cX6_readSum 13 = .ok (.invokevirtual 121, 3) := by decide +kernel
theorem dX6_readSum_16 : decode cX6_readSum 16 = .ok (.ifCond .ne 5, 3) := by decide +kernel
theorem dX6_readSum_19 : decode cX6_readSum 19 = .ok (.iconst 0, 1) := by decide +kernel
theorem dX6_readSum_20 : decode cX6_readSum 20 = .ok (.ireturn, 1) := by decide +kernel
theorem dX6_readSum_21 : decode cX6_readSum 21 = .ok (.aload_n 0, 1) := by decide +kernel
theorem dX6_readSum_22 : decode cX6_readSum 22 = .ok (.invokevirtual 35, 3) := by decide +kernel
theorem dX6_readSum_25 : decode cX6_readSum 25 = .ok (.istore_n 1, 1) := by decide +kernel
theorem dX6_readSum_26 : decode cX6_readSum 26 = .ok (.iload_n 1, 1) := by decide +kernel
theorem dX6_readSum_27 : decode cX6_readSum 27 = .ok (.bipush 43, 2) := by decide +kernel
theorem dX6_readSum_29 : decode cX6_readSum 29 = .ok (.if_icmp .eq 17, 3) := by decide +kernel
theorem dX6_readSum_32 : decode cX6_readSum 32 = .ok (.iload_n 1, 1) := by decide +kernel
theorem dX6_readSum_33 : decode cX6_readSum 33 = .ok (.bipush 45, 2) := by decide +kernel
theorem dX6_readSum_35 : decode cX6_readSum 35 = .ok (.if_icmp .eq 11, 3) := by decide +kernel
theorem dX6_readSum_38 : decode cX6_readSum 38 = .ok (.iload_n 1, 1) := by decide +kernel
theorem dX6_readSum_39 : decode cX6_readSum 39 = .ok (.bipush 42, 2) := by decide +kernel
theorem dX6_readSum_41 : decode cX6_readSum 41 = .ok (.if_icmp .eq 5, 3) := by decide +kernel
theorem dX6_readSum_44 : decode cX6_readSum 44 = .ok (.iconst 1, 1) := by decide +kernel
theorem dX6_readSum_45 : decode cX6_readSum 45 = .ok (.ireturn, 1) := by decide +kernel
theorem dX6_readSum_46 : decode cX6_readSum 46 = .ok (.aload_n 0, 1) := by decide +kernel
theorem dX6_readSum_47 : decode cX6_readSum 47 = .ok (.dup, 1) := by decide +kernel
theorem dX6_readSum_48 : decode cX6_readSum 48 = .ok (.getfield 19, 3) := by decide +kernel
theorem dX6_readSum_51 : decode cX6_readSum 51 = .ok (.iconst 1, 1) := by decide +kernel
theorem dX6_readSum_52 : decode cX6_readSum 52 = .ok (.iadd, 1) := by decide +kernel
theorem dX6_readSum_53 : decode cX6_readSum 53 = .ok (.putfield 19, 3) := by decide +kernel
theorem dX6_readSum_56 : decode cX6_readSum 56 = .ok (.iinc 2 1, 3) := by decide +kernel
theorem dX6_readSum_59 : decode cX6_readSum 59 = .ok (.goto (-54), 3) := by decide +kernel
theorem dX6_readSum_62 : decode cX6_readSum 62 = .ok (.aload_n 0, 1) := by decide +kernel
theorem dX6_readSum_63 : decode cX6_readSum 63 = .ok (.aload_n 0, 1) := by decide +kernel
theorem dX6_readSum_64 : decode cX6_readSum 64 = .ok (.getfield 19, 3) := by decide +kernel
theorem dX6_readSum_67 : decode cX6_readSum 67 = .ok (.iconst 4, 1) := by decide +kernel
theorem dX6_readSum_68 : decode cX6_readSum 68 = .ok (.invokevirtual 39, 3) := by decide +kernel
theorem dX6_readSum_71 : decode cX6_readSum 71 = .ok (.ireturn, 1) := by decide +kernel
theorem dX6_readValue_0 : decode cX6_readValue 0 = .ok (.aload_n 0, 1) := by decide +kernel
theorem dX6_readValue_1 : decode cX6_readValue 1 = .ok (.invokevirtual 35, 3) := by decide +kernel
theorem dX6_readValue_4 : decode cX6_readValue 4 = .ok (.istore_n 2, 1) := by decide +kernel
theorem dX6_readValue_5 : decode cX6_readValue 5 = .ok (.aload_n 0, 1) := by decide +kernel
theorem dX6_readValue_6 : decode cX6_readValue 6 = .ok (.getfield 19, 3) := by decide +kernel
theorem dX6_readValue_9 : decode cX6_readValue 9 = .ok (.istore_n 3, 1) := by decide +kernel
theorem dX6_readValue_10 : decode cX6_readValue 10 = .ok (.iconst (-1), 1) := by decide +kernel
theorem dX6_readValue_11 : decode cX6_readValue 11 = .ok (.istore 4, 2) := by decide +kernel
theorem dX6_readValue_13 : decode cX6_readValue 13 = .ok (.iload_n 2, 1) := by decide +kernel
theorem dX6_readValue_14 : decode cX6_readValue 14 = .ok (.invokestatic 105, 3) := by decide +kernel
theorem dX6_readValue_17 : decode cX6_readValue 17 = .ok (.ifCond .eq 12, 3) := by decide +kernel
theorem dX6_readValue_20 : decode cX6_readValue 20 = .ok (.aload_n 0, 1) := by decide +kernel
theorem dX6_readValue_21 : decode cX6_readValue 21 = .ok (.invokevirtual 98, 3) := by decide +kernel
theorem dX6_readValue_24 : decode cX6_readValue 24 = .ok (.istore 4, 2) := by decide +kernel
theorem dX6_readValue_26 : decode cX6_readValue 26 = .ok (.goto 31, 3) := by decide +kernel
theorem dX6_readValue_29 : decode cX6_readValue 29 = .ok (.iload_n 2, 1) := by decide +kernel
theorem dX6_readValue_30 : decode cX6_readValue 30 = .ok (.invokestatic 54, 3) := by decide +kernel
theorem dX6_readValue_33 : decode cX6_readValue 33 = .ok (.ifCond .eq 17, 3) := by decide +kernel
theorem dX6_readValue_36 : decode cX6_readValue 36 = .ok (.aload_n 0, 1) := by decide +kernel
theorem dX6_readValue_37 : decode cX6_readValue 37 = .ok (.aload_n 0, 1) := by decide +kernel
theorem dX6_readValue_38 : decode cX6_readValue 38 = .ok (.iload_n 3, 1) := by decide +kernel
theorem dX6_readValue_39 : decode cX6_readValue 39 = .ok (.invokevirtual 65, 3) := by decide +kernel
theorem dX6_readValue_42 : decode cX6_readValue 42 = .ok (.invokevirtual 124, 3) := by decide +kernel
theorem dX6_readValue_45 : decode cX6_readValue 45 = .ok (.istore 4, 2) := by decide +kernel
theorem dX6_readValue_47 : decode cX6_readValue 47 = .ok (.goto 10, 3) := by decide +kernel
theorem dX6_readValue_50 : decode cX6_readValue 50 = .ok (.aload_n 0, 1) := by decide +kernel
theorem dX6_readValue_51 : decode cX6_readValue 51 = .ok (.iload_n 3, 1) := by decide +kernel
theorem dX6_readValue_52 : decode cX6_readValue 52 = .ok (.iconst 0, 1) := by decide +kernel
theorem dX6_readValue_53 : decode cX6_readValue 53 = .ok (.invokevirtual 39, 3) := by decide +kernel
theorem dX6_readValue_56 : decode cX6_readValue 56 = .ok (.pop, 1) := by decide +kernel
theorem dX6_readValue_57 : decode cX6_readValue 57 = .ok (.aload_n 0, 1) := by decide +kernel
theorem dX6_readValue_58 : decode cX6_readValue 58 = .ok (.getfield 15, 3) := by decide +kernel
theorem dX6_readValue_61 : decode cX6_readValue 61 = .ok (.iload_n 1, 1) := by decide +kernel
theorem dX6_readValue_62 : decode cX6_readValue 62 = .ok (.iload 4, 2) := by decide +kernel
theorem dX6_readValue_64 : decode cX6_readValue 64 = .ok (.invokevirtual 127, 3) := by decide +kernel
theorem dX6_readValue_67 : decode cX6_readValue 67 = .ok (.ifCond .ne 10, 3) := by decide +kernel
theorem dX6_readValue_70 : decode cX6_readValue 70 = .ok (.aload_n 0, 1) := by decide +kernel
theorem dX6_readValue_71 : decode cX6_readValue 71 = .ok (.iload_n 3, 1) := by decide +kernel
theorem dX6_readValue_72 : decode cX6_readValue 72 = .ok (.iconst 4, 1) := by decide +kernel
theorem dX6_readValue_73 : decode cX6_readValue 73 = .ok (.invokevirtual 39, 3) := by decide +kernel
theorem dX6_readValue_76 : decode cX6_readValue 76 = .ok (.pop, 1) := by decide +kernel
theorem dX6_readValue_77 : decode cX6_readValue 77 = .ok (.aload_n 0, 1) := by decide +kernel
theorem dX6_readValue_78 : decode cX6_readValue 78 = .ok (.getfield 23, 3) := by decide +kernel
theorem dX6_readValue_81 : decode cX6_readValue 81 = .ok (.ifCond .ne 7, 3) := by decide +kernel
theorem dX6_readValue_84 : decode cX6_readValue 84 = .ok (.iconst 1, 1) := by decide +kernel
theorem dX6_readValue_85 : decode cX6_readValue 85 = .ok (.goto 4, 3) := by decide +kernel
theorem dX6_readValue_88 : decode cX6_readValue 88 = .ok (.iconst 0, 1) := by decide +kernel
theorem dX6_readValue_89 : decode cX6_readValue 89 = .ok (.ireturn, 1) := by decide +kernel
theorem dX6_readNamedValue_0 : decode cX6_readNamedValue 0 = .ok (.aload_n 0, 1) := by decide +kernel
theorem dX6_readNamedValue_1 : decode cX6_readNamedValue 1 = .ok (.getfield 19, 3) := by decide +kernel
theorem dX6_readNamedValue_4 : decode cX6_readNamedValue 4 = .ok (.istore_n 2, 1) := by decide +kernel
theorem dX6_readNamedValue_5 : decode cX6_readNamedValue 5 = .ok (.iload_n 1, 1) := by decide +kernel
theorem dX6_readNamedValue_6 : decode cX6_readNamedValue 6 = .ok (.iconst 3, 1) := by decide +kernel
theorem dX6_readNamedValue_7 : decode cX6_readNamedValue 7 = .ok (.if_icmp .ne 55, 3) := by decide +kernel
theorem dX6_readNamedValue_10 : decode cX6_readNamedValue 10 = .ok (.aload_n 0, 1) := by decide +kernel
theorem dX6_readNamedValue_11 : decode cX6_readNamedValue 11 = .ok (.getfield 9, 3) := by decide +kernel
theorem dX6_readNamedValue_14 : decode cX6_readNamedValue 14 = .ok (.iload_n 2, 1) := by decide +kernel
theorem dX6_readNamedValue_15 : decode cX6_readNamedValue 15 = .ok (.invokevirtual 48, 3) := by decide +kernel
theorem dX6_readNamedValue_18 : decode cX6_readNamedValue 18 = .ok (.bipush 100, 2) := by decide +kernel
theorem dX6_readNamedValue_20 : decode cX6_readNamedValue 20 = .ok (.if_icmp .ne 42, 3) := by decide +kernel
theorem dX6_readNamedValue_23 : decode cX6_readNamedValue 23 = .ok (.aload_n 0, 1) := by decide +kernel
theorem dX6_readNamedValue_24 : decode cX6_readNamedValue 24 = .ok (.getfield 9, 3) := by decide +kernel
theorem dX6_readNamedValue_27 : decode cX6_readNamedValue 27 = .ok (.iload_n 2, 1) := by decide +kernel
theorem dX6_readNamedValue_28 : decode cX6_readNamedValue 28 = .ok (.iconst 1, 1) := by decide +kernel
theorem dX6_readNamedValue_29 : decode cX6_readNamedValue 29 = .ok (.iadd, 1) := by decide +kernel
theorem dX6_readNamedValue_30 : decode cX6_readNamedValue 30 = .ok (.invokevirtual 48, 3) := by decide +kernel
theorem dX6_readNamedValue_33 : decode cX6_readNamedValue 33 = .ok (.bipush 97, 2) := by decide +kernel
theorem dX6_readNamedValue_35 : decode cX6_readNamedValue 35 = .ok (.if_icmp .ne 27, 3) := by decide +kernel
theorem dX6_readNamedValue_38 : decode cX6_readNamedValue 38 = .ok (.aload_n 0, 1) := by decide +kernel
theorem dX6_readNamedValue_39 : decode cX6_readNamedValue 39 = .ok (.getfield 9, 3) := by decide +kernel
theorem dX6_readNamedValue_42 : decode cX6_readNamedValue 42 = .ok (.iload_n 2, 1) := by decide +kernel
theorem dX6_readNamedValue_43 : decode cX6_readNamedValue 43 = .ok (.iconst 2, 1) := by decide +kernel
theorem dX6_readNamedValue_44 : decode cX6_readNamedValue 44 = .ok (.iadd, 1) := by decide +kernel
theorem dX6_readNamedValue_45 : decode cX6_readNamedValue 45 = .ok (.invokevirtual 48, 3) := by decide +kernel
theorem dX6_readNamedValue_48 : decode cX6_readNamedValue 48 = .ok (.bipush 121, 2) := by decide +kernel
theorem dX6_readNamedValue_50 : decode cX6_readNamedValue 50 = .ok (.if_icmp .ne 12, 3) := by decide +kernel
theorem dX6_readNamedValue_53 : decode cX6_readNamedValue 53 = .ok (.aload_n 0, 1) := by decide +kernel
theorem dX6_readNamedValue_54 : decode cX6_readNamedValue 54 = .ok (.iload_n 2, 1) := by decide +kernel
theorem dX6_readNamedValue_55 : decode cX6_readNamedValue 55 = .ok (.iload_n 1, 1) := by decide +kernel
theorem dX6_readNamedValue_56 : decode cX6_readNamedValue 56 = .ok (.iadd, 1) := by decide +kernel
theorem dX6_readNamedValue_57 : decode cX6_readNamedValue 57 = .ok (.putfield 19, 3) := by decide +kernel
theorem dX6_readNamedValue_60 : decode cX6_readNamedValue 60 = .ok (.iconst (-1), 1) := by decide +kernel
theorem dX6_readNamedValue_61 : decode cX6_readNamedValue 61 = .ok (.ireturn, 1) := by decide +kernel
theorem dX6_readNamedValue_62 : decode cX6_readNamedValue 62 = .ok (.iload_n 1, 1) := by decide +kernel
theorem dX6_readNamedValue_63 : decode cX6_readNamedValue 63 = .ok (.iconst 1, 1) := by decide +kernel
theorem dX6_readNamedValue_64 : decode cX6_readNamedValue 64 = .ok (.if_icmp .ne 16, 3) := by decide +kernel
theorem dX6_readNamedValue_67 : decode cX6_readNamedValue 67 = .ok (.aload_n 0, 1) := by decide +kernel
theorem dX6_readNamedValue_68 : decode cX6_readNamedValue 68 = .ok (.getfield 9, 3) := by decide +kernel
theorem dX6_readNamedValue_71 : decode cX6_readNamedValue 71 = .ok (.iload_n 2, 1) := by decide +kernel
theorem dX6_readNamedValue_72 : decode cX6_readNamedValue 72 = .ok (.invokevirtual 48, 3) := by decide +kernel
theorem dX6_readNamedValue_75 : decode cX6_readNamedValue 75 = .ok (.bipush 115, 2) := by decide +kernel
theorem dX6_readNamedValue_77 : decode cX6_readNamedValue 77 = .ok (.if_icmp .eq 12, 3) := by decide +kernel
theorem dX6_readNamedValue_80 : decode cX6_readNamedValue 80 = .ok (.aload_n 0, 1) := by decide +kernel
theorem dX6_readNamedValue_81 : decode cX6_readNamedValue 81 = .ok (.iload_n 2, 1) := by decide +kernel
theorem dX6_readNamedValue_82 : decode cX6_readNamedValue 82 = .ok (.iconst 0, 1) := by decide +kernel
theorem dX6_readNamedValue_83 : decode cX6_readNamedValue 83 = .ok (.invokevirtual 39, 3) := by decide +kernel
theorem dX6_readNamedValue_86 : decode cX6_readNamedValue 86 = .ok (.pop, 1) := by decide +kernel
theorem dX6_readNamedValue_87 : decode cX6_readNamedValue 87 = .ok (.iconst (-1), 1) := by decide +kernel
theorem dX6_readNamedValue_88 : decode cX6_readNamedValue 88 = .ok (.ireturn, 1) := by decide +kernel
theorem dX6_readNamedValue_89 : decode cX6_readNamedValue 89 = .ok (.aload_n 0, 1) := by decide +kernel
theorem dX6_readNamedValue_90 : decode cX6_readNamedValue 90 = .ok (.getfield 9, 3) := by decide +kernel
theorem dX6_readNamedValue_93 : decode cX6_readNamedValue 93 = .ok (.iload_n 2, 1) := by decide +kernel
theorem dX6_readNamedValue_94 : decode cX6_readNamedValue 94 = .ok (.iconst 1, 1) := by decide +kernel
theorem dX6_readNamedValue_95 : decode cX6_readNamedValue 95 = .ok (.iadd, 1) := by decide +kernel
theorem dX6_readNamedValue_96 : decode cX6_readNamedValue 96 = .ok (.invokevirtual 48, 3) := by decide +kernel
theorem dX6_readNamedValue_99 : decode cX6_readNamedValue 99 = .ok (.bipush 48, 2) := by decide +kernel
theorem dX6_readNamedValue_101 : decode cX6_readNamedValue 101 = .ok (.isub, 1) := by decide +kernel
theorem dX6_readNamedValue_102 : decode cX6_readNamedValue 102 = .ok (.istore_n 3, 1) := by decide +kernel
theorem dX6_readNamedValue_103 : decode cX6_readNamedValue 103 = .ok (.iload_n 3, 1) := by decide +kernel
theorem dX6_readNamedValue_104 : decode cX6_readNamedValue 104 = .ok (.ifCond .lt 9, 3) := by decide +kernel
theorem dX6_readNamedValue_107 : decode cX6_readNamedValue 107 = .ok (.iload_n 3, 1) := by decide +kernel
theorem dX6_readNamedValue_108 : decode cX6_readNamedValue 108 = .ok (.bipush 6, 2) := by decide +kernel
theorem dX6_readNamedValue_110 : decode cX6_readNamedValue 110 = .ok (.if_icmp .lt 14, 3) := by decide +kernel
theorem dX6_readNamedValue_113 : decode cX6_readNamedValue 113 = .ok (.aload_n 0, 1) := by decide +kernel
theorem dX6_readNamedValue_114 : decode cX6_readNamedValue 114 = .ok (.iload_n 2, 1) := by decide +kernel
theorem dX6_readNamedValue_115 : decode cX6_readNamedValue 115 = .ok (.iconst 1, 1) := by decide +kernel
theorem dX6_readNamedValue_116 : decode cX6_readNamedValue 116 = .ok (.iadd, 1) := by decide +kernel
theorem dX6_readNamedValue_117 : decode cX6_readNamedValue 117 = .ok (.iconst 0, 1) := by decide +kernel
theorem dX6_readNamedValue_118 : decode cX6_readNamedValue 118 = .ok (.invokevirtual 39, 3) := by decide +kernel
theorem dX6_readNamedValue_121 : decode cX6_readNamedValue 121 = .ok (.pop, 1) := by decide +kernel
theorem dX6_readNamedValue_122 : decode cX6_readNamedValue 122 = .ok (.iconst (-1), 1) := by decide +kernel
theorem dX6_readNamedValue_123 : decode cX6_readNamedValue 123 = .ok (.ireturn, 1) := by decide +kernel
theorem dX6_readNamedValue_124 : decode cX6_readNamedValue 124 = .ok (.aload_n 0, 1) := by decide +kernel
theorem dX6_readNamedValue_125 : decode cX6_readNamedValue 125 = .ok (.iload_n 2, 1) := by decide +kernel
theorem dX6_readNamedValue_126 : decode cX6_readNamedValue 126 = .ok (.iconst 2, 1) := by decide +kernel
theorem dX6_readNamedValue_127 : decode cX6_readNamedValue 127 = .ok (.iadd, 1) := by decide +kernel
theorem dX6_readNamedValue_128 : decode cX6_readNamedValue 128 = .ok (.putfield 19, 3) := by decide +kernel
theorem dX6_readNamedValue_131 : decode cX6_readNamedValue 131 = .ok (.bipush (-2), 2) := by decide +kernel
theorem dX6_readNamedValue_133 : decode cX6_readNamedValue 133 = .ok (.iload_n 3, 1) := by decide +kernel
theorem dX6_readNamedValue_134 : decode cX6_readNamedValue 134 = .ok (.isub, 1) := by decide +kernel
theorem dX6_readNamedValue_135 : decode cX6_readNamedValue 135 = .ok (.ireturn, 1) := by decide +kernel
theorem dX7_init_0 : decode cX7_init 0 = .ok (.aload_n 0, 1) := by decide +kernel
theorem dX7_init_1 : decode cX7_init 1 = .ok (.invokespecial 3, 3) := by decide +kernel
theorem dX7_init_4 : decode cX7_init 4 = .ok (.aload_n 0, 1) := by decide +kernel
theorem dX7_init_5 : decode cX7_init 5 = .ok (.bipush 6, 2) := by decide +kernel
theorem dX7_init_7 : decode cX7_init 7 = .ok (.newarray .int, 2) := by decide +kernel
theorem dX7_init_9 : decode cX7_init 9 = .ok (.putfield 9, 3) := by decide +kernel
theorem dX7_init_12 : decode cX7_init 12 = .ok (.return_, 1) := by decide +kernel
theorem dX7_valueOf_0 : decode cX7_valueOf 0 = .ok (.iload_n 1, 1) := by decide +kernel
theorem dX7_valueOf_1 : decode cX7_valueOf 1 = .ok (.ifCond .lt 5, 3) := by decide +kernel
theorem dX7_valueOf_4 : decode cX7_valueOf 4 = .ok (.iload_n 1, 1) := by decide +kernel
theorem dX7_valueOf_5 : decode cX7_valueOf 5 = .ok (.ireturn, 1) := by decide +kernel
theorem dX7_valueOf_6 : decode cX7_valueOf 6 = .ok (.bipush (-2), 2) := by decide +kernel
theorem dX7_valueOf_8 : decode cX7_valueOf 8 = .ok (.iload_n 1, 1) := by decide +kernel
theorem dX7_valueOf_9 : decode cX7_valueOf 9 = .ok (.isub, 1) := by decide +kernel
theorem dX7_valueOf_10 : decode cX7_valueOf 10 = .ok (.istore_n 2, 1) := by decide +kernel
theorem dX7_valueOf_11 : decode cX7_valueOf 11 = .ok (.iload_n 2, 1) := by decide +kernel
theorem dX7_valueOf_12 : decode cX7_valueOf 12 = .ok (.ifCond .lt 18, 3) := by decide +kernel
theorem dX7_valueOf_15 : decode cX7_valueOf 15 = .ok (.iload_n 2, 1) := by decide +kernel
theorem dX7_valueOf_16 : decode cX7_valueOf 16 = .ok (.bipush 6, 2) := by decide +kernel
theorem dX7_valueOf_18 : decode cX7_valueOf 18 = .ok (.if_icmp .ge 12, 3) := by decide +kernel
theorem dX7_valueOf_21 : decode cX7_valueOf 21 = .ok (.aload_n 0, 1) := by decide +kernel
theorem dX7_valueOf_22 : decode cX7_valueOf 22 = .ok (.getfield 9, 3) := by decide +kernel
theorem dX7_valueOf_25 : decode cX7_valueOf 25 = .ok (.iload_n 2, 1) := by decide +kernel
theorem dX7_valueOf_26 : decode cX7_valueOf 26 = .ok (.iaload, 1) := by decide +kernel
theorem dX7_valueOf_27 : decode cX7_valueOf 27 = .ok (.goto 7, 3) := by decide +kernel
theorem dX7_valueOf_30 : decode cX7_valueOf 30 = .ok (.aload_n 0, 1) := by decide +kernel
theorem dX7_valueOf_31 : decode cX7_valueOf 31 = .ok (.getfield 15, 3) := by decide +kernel
theorem dX7_valueOf_34 : decode cX7_valueOf 34 = .ok (.ireturn, 1) := by decide +kernel
theorem dX7_setThing_0 : decode cX7_setThing 0 = .ok (.iload_n 1, 1) := by decide +kernel
theorem dX7_setThing_1 : decode cX7_setThing 1 = .ok (.ifCond .lt 16, 3) := by decide +kernel
theorem dX7_setThing_4 : decode cX7_setThing 4 = .ok (.iload_n 1, 1) := by decide +kernel
theorem dX7_setThing_5 : decode cX7_setThing 5 = .ok (.bipush 6, 2) := by decide +kernel
theorem dX7_setThing_7 : decode cX7_setThing 7 = .ok (.if_icmp .ge 10, 3) := by decide +kernel
theorem dX7_setThing_10 : decode cX7_setThing 10 = .ok (.aload_n 0, 1) := by decide +kernel
theorem dX7_setThing_11 : decode cX7_setThing 11 = .ok (.getfield 9, 3) := by decide +kernel
theorem dX7_setThing_14 : decode cX7_setThing 14 = .ok (.iload_n 1, 1) := by decide +kernel
theorem dX7_setThing_15 : decode cX7_setThing 15 = .ok (.iload_n 2, 1) := by decide +kernel
theorem dX7_setThing_16 : decode cX7_setThing 16 = .ok (.iastore, 1) := by decide +kernel
theorem dX7_setThing_17 : decode cX7_setThing 17 = .ok (.return_, 1) := by decide +kernel
theorem dX7_addThing_0 : decode cX7_addThing 0 = .ok (.iload_n 1, 1) := by decide +kernel
theorem dX7_addThing_1 : decode cX7_addThing 1 = .ok (.ifCond .lt 19, 3) := by decide +kernel
theorem dX7_addThing_4 : decode cX7_addThing 4 = .ok (.iload_n 1, 1) := by decide +kernel
theorem dX7_addThing_5 : decode cX7_addThing 5 = .ok (.bipush 6, 2) := by decide +kernel
theorem dX7_addThing_7 : decode cX7_addThing 7 = .ok (.if_icmp .ge 13, 3) := by decide +kernel
theorem dX7_addThing_10 : decode cX7_addThing 10 = .ok (.aload_n 0, 1) := by decide +kernel
theorem dX7_addThing_11 : decode cX7_addThing 11 = .ok (.getfield 9, 3) := by decide +kernel
theorem dX7_addThing_14 : decode cX7_addThing 14 = .ok (.iload_n 1, 1) := by decide +kernel
theorem dX7_addThing_15 : decode cX7_addThing 15 = .ok (.dup2, 1) := by decide +kernel
theorem dX7_addThing_16 : decode cX7_addThing 16 = .ok (.iaload, 1) := by decide +kernel
theorem dX7_addThing_17 : decode cX7_addThing 17 = .ok (.iload_n 2, 1) := by decide +kernel
theorem dX7_addThing_18 : decode cX7_addThing 18 = .ok (.iadd, 1) := by decide +kernel
theorem dX7_addThing_19 : decode cX7_addThing 19 = .ok (.iastore, 1) := by decide +kernel
theorem dX7_addThing_20 : decode cX7_addThing 20 = .ok (.return_, 1) := by decide +kernel
theorem dX7_copyFrom_0 : decode cX7_copyFrom 0 = .ok (.iconst 0, 1) := by decide +kernel
theorem dX7_copyFrom_1 : decode cX7_copyFrom 1 = .ok (.istore_n 2, 1) := by decide +kernel
theorem dX7_copyFrom_2 : decode cX7_copyFrom 2 = .ok (.iload_n 2, 1) := by decide +kernel
theorem dX7_copyFrom_3 : decode cX7_copyFrom 3 = .ok (.bipush 6, 2) := by decide +kernel
theorem dX7_copyFrom_5 : decode cX7_copyFrom 5 = .ok (.if_icmp .ge 21, 3) := by decide +kernel
theorem dX7_copyFrom_8 : decode cX7_copyFrom 8 = .ok (.aload_n 0, 1) := by decide +kernel
theorem dX7_copyFrom_9 : decode cX7_copyFrom 9 = .ok (.getfield 9, 3) := by decide +kernel
theorem dX7_copyFrom_12 : decode cX7_copyFrom 12 = .ok (.iload_n 2, 1) := by decide +kernel
theorem dX7_copyFrom_13 : decode cX7_copyFrom 13 = .ok (.aload_n 1, 1) := by decide +kernel
theorem dX7_copyFrom_14 : decode cX7_copyFrom 14 = .ok (.getfield 9, 3) := by decide +kernel
theorem dX7_copyFrom_17 : decode cX7_copyFrom 17 = .ok (.iload_n 2, 1) := by decide +kernel
theorem dX7_copyFrom_18 : decode cX7_copyFrom 18 = .ok (.iaload, 1) := by decide +kernel
theorem dX7_copyFrom_19 : decode cX7_copyFrom 19 = .ok (.iastore, 1) := by decide +kernel
theorem dX7_copyFrom_20 : decode cX7_copyFrom 20 = .ok (.iinc 2 1, 3) := by decide +kernel
theorem dX7_copyFrom_23 : decode cX7_copyFrom 23 = .ok (.goto (-21), 3) := by decide +kernel
theorem dX7_copyFrom_26 : decode cX7_copyFrom 26 = .ok (.aload_n 0, 1) := by decide +kernel
theorem dX7_copyFrom_27 : decode cX7_copyFrom 27 = .ok (.aload_n 1, 1) := by decide +kernel
theorem dX7_copyFrom_28 : decode cX7_copyFrom 28 = .ok (.getfield 15, 3) := by decide +kernel
theorem dX7_copyFrom_31 : decode cX7_copyFrom 31 = .ok (.putfield 15, 3) := by decide +kernel
theorem dX7_copyFrom_34 : decode cX7_copyFrom 34 = .ok (.return_, 1) := by decide +kernel
theorem dX8_init_0 : decode cX8_init 0 = .ok (.aload_n 0, 1) := by decide +kernel
theorem dX8_init_1 : decode cX8_init 1 = .ok (.invokespecial 3, 3) := by decide +kernel
theorem dX8_init_4 : decode cX8_init 4 = .ok (.aload_n 0, 1) := by decide +kernel
theorem dX8_init_5 : decode cX8_init 5 = .ok (.aload_n 1, 1) := by decide +kernel
theorem dX8_init_6 : decode cX8_init 6 = .ok (.putfield 9, 3) := by decide +kernel
theorem dX8_init_9 : decode cX8_init 9 = .ok (.return_, 1) := by decide +kernel
theorem dX8_write_0 : decode cX8_write 0 = .ok (.aload_n 0, 1) := by decide +kernel
theorem dX8_write_1 : decode cX8_write 1 = .ok (.getfield 9, 3) := by decide +kernel
theorem dX8_write_4 : decode cX8_write 4 = .ok (.iconst 0, 1) := by decide +kernel
theorem dX8_write_5 : decode cX8_write 5 = .ok (.invokevirtual 15, 3) := by decide +kernel
theorem dX8_write_8 : decode cX8_write 8 = .ok (.aload_n 0, 1) := by decide +kernel
theorem dX8_write_9 : decode cX8_write 9 = .ok (.aload_n 1, 1) := by decide +kernel
theorem dX8_write_10 : decode cX8_write 10 = .ok (.iconst 0, 1) := by decide +kernel
theorem dX8_write_11 : decode cX8_write 11 = .ok (.iconst 0, 1) := by decide +kernel
theorem dX8_write_12 : decode cX8_write 12 = .ok (.invokevirtual 21, 3) := by decide +kernel
theorem dX8_write_15 : decode cX8_write 15 = .ok (.return_, 1) := by decide +kernel
theorem dX8_writeDeed_0 : decode cX8_writeDeed 0 = .ok (.aload_n 1, 1) := by decide +kernel
theorem dX8_writeDeed_1 : decode cX8_writeDeed 1 = .ok (.iload_n 2, 1) := by decide +kernel
theorem dX8_writeDeed_2 : decode cX8_writeDeed 2 = .ok (.iconst 0, 1) := by decide +kernel
theorem dX8_writeDeed_3 : decode cX8_writeDeed 3 = .ok (.invokevirtual 25, 3) := by decide +kernel
theorem dX8_writeDeed_6 : decode cX8_writeDeed 6 = .ok (.istore 4, 2) := by decide +kernel
theorem dX8_writeDeed_8 : decode cX8_writeDeed 8 = .ok (.iload 4, 2) := by decide +kernel
theorem dX8_writeDeed_10 : decode cX8_writeDeed 10 = .ok (.iconst (-1), 1) := by decide +kernel
theorem dX8_writeDeed_11 : decode cX8_writeDeed 11 = .ok (.if_icmp .eq 9, 3) := by decide +kernel
theorem dX8_writeDeed_14 : decode cX8_writeDeed 14 = .ok (.iload_n 3, 1) := by decide +kernel
theorem dX8_writeDeed_15 : decode cX8_writeDeed 15 = .ok (.bipush 11, 2) := by decide +kernel
theorem dX8_writeDeed_17 : decode cX8_writeDeed 17 = .ok (.if_icmp .le 4, 3) := by decide +kernel
theorem dX8_writeDeed_20 : decode cX8_writeDeed 20 = .ok (.return_, 1) := by decide +kernel
theorem dX8_writeDeed_21 : decode cX8_writeDeed 21 = .ok (.aload_n 0, 1) := by decide +kernel
theorem dX8_writeDeed_22 : decode cX8_writeDeed 22 = .ok (.iload 4, 2) := by decide +kernel
theorem dX8_writeDeed_24 : decode cX8_writeDeed 24 = .ok (.invokevirtual 31, 3) := by decide +kernel
theorem dX8_writeDeed_27 : decode cX8_writeDeed 27 = .ok (.aload_n 0, 1) := by decide +kernel
theorem dX8_writeDeed_28 : decode cX8_writeDeed 28 = .ok (.aload_n 1, 1) := by decide +kernel
theorem dX8_writeDeed_29 : decode cX8_writeDeed 29 = .ok (.iload_n 2, 1) := by decide +kernel
theorem dX8_writeDeed_30 : decode cX8_writeDeed 30 = .ok (.iload 4, 2) := by decide +kernel
theorem dX8_writeDeed_32 : decode cX8_writeDeed 32 = .ok (.invokevirtual 34, 3) := by decide +kernel
theorem dX8_writeDeed_35 : decode cX8_writeDeed 35 = .ok (.iload 4, 2) := by decide +kernel
theorem dX8_writeDeed_37 : decode cX8_writeDeed 37 = .ok (.invokestatic 37, 3) := by decide +kernel
theorem dX8_writeDeed_40 : decode cX8_writeDeed 40 = .ok (.ifCond .eq 61, 3) := by decide +kernel
theorem dX8_writeDeed_43 : decode cX8_writeDeed 43 = .ok (.aload_n 0, 1) := by decide +kernel
theorem dX8_writeDeed_44 : decode cX8_writeDeed 44 = .ok (.getfield 9, 3) := by decide +kernel
theorem dX8_writeDeed_47 : decode cX8_writeDeed 47 = .ok (.bipush 40, 2) := by decide +kernel
theorem dX8_writeDeed_49 : decode cX8_writeDeed 49 = .ok (.invokevirtual 41, 3) := by decide +kernel
theorem dX8_writeDeed_52 : decode cX8_writeDeed 52 = .ok (.aload_n 0, 1) := by decide +kernel
theorem dX8_writeDeed_53 : decode cX8_writeDeed 53 = .ok (.aload_n 1, 1) := by decide +kernel
theorem dX8_writeDeed_54 : decode cX8_writeDeed 54 = .ok (.aload_n 1, 1) := by decide +kernel
theorem dX8_writeDeed_55 : decode cX8_writeDeed 55 = .ok (.iload_n 2, 1) := by decide +kernel
theorem dX8_writeDeed_56 : decode cX8_writeDeed 56 = .ok (.iconst 3, 1) := by decide +kernel
theorem dX8_writeDeed_57 : decode cX8_writeDeed 57 = .ok (.invokevirtual 25, 3) := by decide +kernel
theorem dX8_writeDeed_60 : decode cX8_writeDeed 60 = .ok (.iload_n 3, 1) := by decide +kernel
theorem dX8_writeDeed_61 : decode cX8_writeDeed 61 = .ok (.iconst 1, 1) := by decide +kernel
theorem dX8_writeDeed_62 : decode cX8_writeDeed 62 = .ok (.iadd, 1) := by decide +kernel
theorem dX8_writeDeed_63 : decode cX8_writeDeed 63 = .ok (.invokevirtual 21, 3) := by decide +kernel
theorem dX8_writeDeed_66 : decode cX8_writeDeed 66 = .ok (.aload_n 0, 1) := by decide +kernel
theorem dX8_writeDeed_67 : decode cX8_writeDeed 67 = .ok (.getfield 9, 3) := by decide +kernel
theorem dX8_writeDeed_70 : decode cX8_writeDeed 70 = .ok (.bipush 44, 2) := by decide +kernel
theorem dX8_writeDeed_72 : decode cX8_writeDeed 72 = .ok (.invokevirtual 41, 3) := by decide +kernel
theorem dX8_writeDeed_75 : decode cX8_writeDeed 75 = .ok (.aload_n 0, 1) := by decide +kernel
theorem dX8_writeDeed_76 : decode cX8_writeDeed 76 = .ok (.aload_n 1, 1) := by decide +kernel
theorem dX8_writeDeed_77 : decode cX8_writeDeed 77 = .ok (.aload_n 1, 1) := by decide +kernel
theorem dX8_writeDeed_78 : decode cX8_writeDeed 78 = .ok (.iload_n 2, 1) := by decide +kernel
theorem dX8_writeDeed_79 : decode cX8_writeDeed 79 = .ok (.iconst 4, 1) := by decide +kernel
theorem dX8_writeDeed_80 : decode cX8_writeDeed 80 = .ok (.invokevirtual 25, 3) := by decide +kernel
theorem dX8_writeDeed_83 : decode cX8_writeDeed 83 = .ok (.iload_n 3, 1) := by decide +kernel
theorem dX8_writeDeed_84 : decode cX8_writeDeed 84 = .ok (.iconst 1, 1) := by decide +kernel
theorem dX8_writeDeed_85 : decode cX8_writeDeed 85 = .ok (.iadd, 1) := by decide +kernel
theorem dX8_writeDeed_86 : decode cX8_writeDeed 86 = .ok (.invokevirtual 21, 3) := by decide +kernel
theorem dX8_writeDeed_89 : decode cX8_writeDeed 89 = .ok (.aload_n 0, 1) := by decide +kernel
theorem dX8_writeDeed_90 : decode cX8_writeDeed 90 = .ok (.getfield 9, 3) := by decide +kernel
theorem dX8_writeDeed_93 : decode cX8_writeDeed 93 = .ok (.bipush 41, 2) := by decide +kernel
theorem dX8_writeDeed_95 : decode cX8_writeDeed 95 = .ok (.invokevirtual 41, 3) := by decide +kernel
theorem dX8_writeDeed_98 : decode cX8_writeDeed 98 = .ok (.goto 25, 3) := by decide +kernel
theorem dX8_writeDeed_101 : decode cX8_writeDeed 101 = .ok (.iload 4, 2) := by decide +kernel
theorem dX8_writeDeed_103 : decode cX8_writeDeed 103 = .ok (.invokestatic 44, 3) := by decide +kernel
theorem dX8_writeDeed_106 : decode cX8_writeDeed 106 = .ok (.ifCond .eq 17, 3) := by decide +kernel
theorem dX8_writeDeed_109 : decode cX8_writeDeed 109 = .ok (.aload_n 0, 1) := by decide +kernel
theorem dX8_writeDeed_110 : decode cX8_writeDeed 110 = .ok (.aload_n 1, 1) := by decide +kernel
theorem dX8_writeDeed_111 : decode cX8_writeDeed 111 = .ok (.aload_n 1, 1) := by decide +kernel
theorem dX8_writeDeed_112 : decode cX8_writeDeed 112 = .ok (.iload_n 2, 1) := by decide +kernel
theorem dX8_writeDeed_113 : decode cX8_writeDeed 113 = .ok (.iconst 3, 1) := by decide +kernel
theorem dX8_writeDeed_114 : decode cX8_writeDeed 114 = .ok (.invokevirtual 25, 3) := by decide +kernel
theorem dX8_writeDeed_117 : decode cX8_writeDeed 117 = .ok (.iload_n 3, 1) := by decide +kernel
theorem dX8_writeDeed_118 : decode cX8_writeDeed 118 = .ok (.iconst 1, 1) := by decide +kernel
theorem dX8_writeDeed_119 : decode cX8_writeDeed 119 = .ok (.iadd, 1) := by decide +kernel
theorem dX8_writeDeed_120 : decode cX8_writeDeed 120 = .ok (.invokevirtual 21, 3) := by decide +kernel
theorem dX8_writeDeed_123 : decode cX8_writeDeed 123 = .ok (.return_, 1) := by decide +kernel
theorem dX8_writeHead_0 : decode cX8_writeHead 0 = .ok (.aload_n 1, 1) := by decide +kernel
theorem dX8_writeHead_1 : decode cX8_writeHead 1 = .ok (.iload_n 2, 1) := by decide +kernel
theorem dX8_writeHead_2 : decode cX8_writeHead 2 = .ok (.bipush 6, 2) := by decide +kernel
theorem dX8_writeHead_4 : decode cX8_writeHead 4 = .ok (.invokevirtual 25, 3) := by decide +kernel
theorem dX8_writeHead_7 : decode cX8_writeHead 7 = .ok (.istore 4, 2) := by decide +kernel
theorem dX8_writeHead_9 : decode cX8_writeHead 9 = .ok (.iload_n 3, 1) := by decide +kernel
theorem dX8_writeHead_10 : decode cX8_writeHead 10 = .ok (.invokestatic 47, 3) := by decide +kernel
theorem dX8_writeHead_13 : decode cX8_writeHead 13 = .ok (.ifCond .eq 17, 3) := by decide +kernel
theorem dX8_writeHead_16 : decode cX8_writeHead 16 = .ok (.aload_n 0, 1) := by decide +kernel
theorem dX8_writeHead_17 : decode cX8_writeHead 17 = .ok (.invokevirtual 50, 3) := by decide +kernel
theorem dX8_writeHead_20 : decode cX8_writeHead 20 = .ok (.aload_n 0, 1) := by decide +kernel
theorem dX8_writeHead_21 : decode cX8_writeHead 21 = .ok (.aload_n 1, 1) := by decide +kernel
theorem dX8_writeHead_22 : decode cX8_writeHead 22 = .ok (.iload_n 2, 1) := by decide +kernel
theorem dX8_writeHead_23 : decode cX8_writeHead 23 = .ok (.iconst 2, 1) := by decide +kernel
theorem dX8_writeHead_24 : decode cX8_writeHead 24 = .ok (.invokevirtual 25, 3) := by decide +kernel
theorem dX8_writeHead_27 : decode cX8_writeHead 27 = .ok (.invokevirtual 53, 3) := by decide +kernel
theorem dX8_writeHead_30 : decode cX8_writeHead 30 = .ok (.iload_n 3, 1) := by decide +kernel
theorem dX8_writeHead_31 : decode cX8_writeHead 31 = .ok (.invokestatic 56, 3) := by decide +kernel
theorem dX8_writeHead_34 : decode cX8_writeHead 34 = .ok (.ifCond .eq 16, 3) := by decide +kernel
theorem dX8_writeHead_37 : decode cX8_writeHead 37 = .ok (.aload_n 0, 1) := by decide +kernel
theorem dX8_writeHead_38 : decode cX8_writeHead 38 = .ok (.aload_n 1, 1) := by decide +kernel
theorem dX8_writeHead_39 : decode cX8_writeHead 39 = .ok (.aload_n 1, 1) := by decide +kernel
theorem dX8_writeHead_40 : decode cX8_writeHead 40 = .ok (.iload_n 2, 1) := by decide +kernel
theorem dX8_writeHead_41 : decode cX8_writeHead 41 = .ok (.iconst 5, 1) := by decide +kernel
theorem dX8_writeHead_42 : decode cX8_writeHead 42 = .ok (.invokevirtual 25, 3) := by decide +kernel
theorem dX8_writeHead_45 : decode cX8_writeHead 45 = .ok (.iload 4, 2) := by decide +kernel
theorem dX8_writeHead_47 : decode cX8_writeHead 47 = .ok (.invokevirtual 59, 3) := by decide +kernel
theorem dX8_writeHead_50 : decode cX8_writeHead 50 = .ok (.iload_n 3, 1) := by decide +kernel
theorem dX8_writeHead_51 : decode cX8_writeHead 51 = .ok (.invokestatic 62, 3) := by decide +kernel
theorem dX8_writeHead_54 : decode cX8_writeHead 54 = .ok (.ifCond .eq 28, 3) := by decide +kernel
theorem dX8_writeHead_57 : decode cX8_writeHead 57 = .ok (.aload_n 0, 1) := by decide +kernel
theorem dX8_writeHead_58 : decode cX8_writeHead 58 = .ok (.aload_n 1, 1) := by decide +kernel
theorem dX8_writeHead_59 : decode cX8_writeHead 59 = .ok (.iload_n 2, 1) := by decide +kernel
theorem dX8_writeHead_60 : decode cX8_writeHead 60 = .ok (.bipush 8, 2) := by decide +kernel
theorem dX8_writeHead_62 : decode cX8_writeHead 62 = .ok (.invokevirtual 25, 3) := by decide +kernel
theorem dX8_writeHead_65 : decode cX8_writeHead 65 = .ok (.invokevirtual 65, 3) := by decide +kernel
theorem dX8_writeHead_68 : decode cX8_writeHead 68 = .ok (.aload_n 0, 1) := by decide +kernel
theorem dX8_writeHead_69 : decode cX8_writeHead 69 = .ok (.aload_n 1, 1) := by decide +kernel
theorem dX8_writeHead_70 : decode cX8_writeHead 70 = .ok (.iload 4, 2) := by decide +kernel
theorem dX8_writeHead_72 : decode cX8_writeHead 72 = .ok (.aload_n 1, 1) := by decide +kernel
theorem dX8_writeHead_73 : decode cX8_writeHead 73 = .ok (.iload_n 2, 1) := by decide +kernel
theorem dX8_writeHead_74 : decode cX8_writeHead 74 = .ok (.bipush 7, 2) := by decide +kernel
theorem dX8_writeHead_76 : decode cX8_writeHead 76 = .ok (.invokevirtual 25, 3) := by decide +kernel
theorem dX8_writeHead_79 : decode cX8_writeHead 79 = .ok (.invokevirtual 59, 3) := by decide +kernel
theorem dX8_writeHead_82 : decode cX8_writeHead 82 = .ok (.iload_n 3, 1) := by decide +kernel
theorem dX8_writeHead_83 : decode cX8_writeHead 83 = .ok (.invokestatic 56, 3) := by decide +kernel
theorem dX8_writeHead_86 : decode cX8_writeHead 86 = .ok (.ifCond .eq 12, 3) := by decide +kernel
theorem dX8_writeHead_89 : decode cX8_writeHead 89 = .ok (.aload_n 0, 1) := by decide +kernel
theorem dX8_writeHead_90 : decode cX8_writeHead 90 = .ok (.getfield 9, 3) := by decide +kernel
theorem dX8_writeHead_93 : decode cX8_writeHead 93 = .ok (.bipush 58, 2) := by decide +kernel
theorem dX8_writeHead_95 : decode cX8_writeHead 95 = .ok (.invokevirtual 41, 3) := by decide +kernel
theorem dX8_writeHead_98 : decode cX8_writeHead 98 = .ok (.return_, 1) := by decide +kernel
theorem dX8_gap_0 : decode cX8_gap 0 = .ok (.aload_n 0, 1) := by decide +kernel
theorem dX8_gap_1 : decode cX8_gap 1 = .ok (.getfield 9, 3) := by decide +kernel
theorem dX8_gap_4 : decode cX8_gap 4 = .ok (.aload_n 0, 1) := by decide +kernel
theorem dX8_gap_5 : decode cX8_gap 5 = .ok (.getfield 9, 3) := by decide +kernel
theorem dX8_gap_8 : decode cX8_gap 8 = .ok (.invokevirtual 68, 3) := by decide +kernel
theorem dX8_gap_11 : decode cX8_gap 11 = .ok (.iconst 1, 1) := by decide +kernel
theorem dX8_gap_12 : decode cX8_gap 12 = .ok (.isub, 1) := by decide +kernel
theorem dX8_gap_13 : decode cX8_gap 13 = .ok (.invokevirtual 72, 3) := by decide +kernel
theorem dX8_gap_16 : decode cX8_gap 16 = .ok (.istore_n 1, 1) := by decide +kernel
theorem dX8_gap_17 : decode cX8_gap 17 = .ok (.iload_n 1, 1) := by decide +kernel
theorem dX8_gap_18 : decode cX8_gap 18 = .ok (.invokestatic 76, 3) := by decide +kernel
theorem dX8_gap_21 : decode cX8_gap 21 = .ok (.ifCond .ne 10, 3) := by decide +kernel
theorem dX8_gap_24 : decode cX8_gap 24 = .ok (.iload_n 1, 1) := by decide +kernel
theorem dX8_gap_25 : decode cX8_gap 25 = .ok (.invokestatic 79, 3) := by decide +kernel
theorem dX8_gap_28 : decode cX8_gap 28 = .ok (.ifCond .eq 12, 3) := by decide +kernel
theorem dX8_gap_31 : decode cX8_gap 31 = .ok (.aload_n 0, 1) := by decide +kernel
theorem dX8_gap_32 : decode cX8_gap 32 = .ok (.getfield 9, 3) := by decide +kernel
theorem dX8_gap_35 : decode cX8_gap 35 = .ok (.bipush 32, 2) := by decide +kernel
theorem dX8_gap_37 : decode cX8_gap 37 = .ok (.invokevirtual 41, 3) := by decide +kernel
theorem dX8_gap_40 : decode cX8_gap 40 = .ok (.return_, 1) := by decide +kernel
theorem dX8_writeName_0 : decode cX8_writeName 0 = .ok (.aload_n 0, 1) := by decide +kernel
theorem dX8_writeName_1 : decode cX8_writeName 1 = .ok (.invokevirtual 50, 3) := by decide +kernel
theorem dX8_writeName_4 : decode cX8_writeName 4 = .ok (.iconst 0, 1) := by decide +kernel
theorem dX8_writeName_5 : decode cX8_writeName 5 = .ok (.istore_n 2, 1) := by decide +kernel
theorem dX8_writeName_6 : decode cX8_writeName 6 = .ok (.iload_n 2, 1) := by decide +kernel
theorem dX8_writeName_7 : decode cX8_writeName 7 = .ok (.bipush 8, 2) := by decide +kernel
theorem dX8_writeName_9 : decode cX8_writeName 9 = .ok (.if_icmp .ge 31, 3) := by decide +kernel
theorem dX8_writeName_12 : decode cX8_writeName 12 = .ok (.iload_n 1, 1) := by decide +kernel
theorem dX8_writeName_13 : decode cX8_writeName 13 = .ok (.iload_n 2, 1) := by decide +kernel
theorem dX8_writeName_14 : decode cX8_writeName 14 = .ok (.invokestatic 82, 3) := by decide +kernel
theorem dX8_writeName_17 : decode cX8_writeName 17 = .ok (.bipush 32, 2) := by decide +kernel
theorem dX8_writeName_19 : decode cX8_writeName 19 = .ok (.if_icmp .eq 21, 3) := by decide +kernel
theorem dX8_writeName_22 : decode cX8_writeName 22 = .ok (.aload_n 0, 1) := by decide +kernel
theorem dX8_writeName_23 : decode cX8_writeName 23 = .ok (.getfield 9, 3) := by decide +kernel
theorem dX8_writeName_26 : decode cX8_writeName 26 = .ok (.iload_n 1, 1) := by decide +kernel
theorem dX8_writeName_27 : decode cX8_writeName 27 = .ok (.iload_n 2, 1) := by decide +kernel
theorem dX8_writeName_28 : decode cX8_writeName 28 = .ok (.invokestatic 82, 3) := by decide +kernel
theorem dX8_writeName_31 : decode cX8_writeName 31 = .ok (.invokevirtual 41, 3) := by decide +kernel
theorem dX8_writeName_34 : decode cX8_writeName 34 = .ok (.iinc 2 1, 3) := by decide +kernel
theorem dX8_writeName_37 : decode cX8_writeName 37 = .ok (.goto (-31), 3) := by decide +kernel
theorem dX8_writeName_40 : decode cX8_writeName 40 = .ok (.return_, 1) := by decide +kernel
theorem dX8_writeNumber_0 : decode cX8_writeNumber 0 = .ok (.iconst 1, 1) := by decide +kernel
theorem dX8_writeNumber_1 : decode cX8_writeNumber 1 = .ok (.istore_n 2, 1) := by decide +kernel
theorem dX8_writeNumber_2 : decode cX8_writeNumber 2 = .ok (.iconst 1, 1) := by decide +kernel
theorem dX8_writeNumber_3 : decode cX8_writeNumber 3 = .ok (.istore_n 3, 1) := by decide +kernel
theorem dX8_writeNumber_4 : decode cX8_writeNumber 4 = .ok (.iload_n 3, 1) := by decide +kernel
theorem dX8_writeNumber_5 : decode cX8_writeNumber 5 = .ok (.iconst 5, 1) := by decide +kernel
theorem dX8_writeNumber_6 : decode cX8_writeNumber 6 = .ok (.if_icmp .ge 26, 3) := by decide +kernel
theorem dX8_writeNumber_9 : decode cX8_writeNumber 9 = .ok (.iload_n 2, 1) := by decide +kernel
theorem dX8_writeNumber_10 : decode cX8_writeNumber 10 = .ok (.ifCond .le 22, 3) := by decide +kernel
theorem dX8_writeNumber_13 : decode cX8_writeNumber 13 = .ok (.iload_n 1, 1) := by decide +kernel
theorem dX8_writeNumber_14 : decode cX8_writeNumber 14 = .ok (.iload_n 2, 1) := by decide +kernel
theorem dX8_writeNumber_15 : decode cX8_writeNumber 15 = .ok (.idiv, 1) := by decide +kernel
theorem dX8_writeNumber_16 : decode cX8_writeNumber 16 = .ok (.bipush 10, 2) := by decide +kernel
theorem dX8_writeNumber_18 : decode cX8_writeNumber 18 = .ok (.if_icmp .lt 14, 3) := by decide +kernel
theorem dX8_writeNumber_21 : decode cX8_writeNumber 21 = .ok (.iload_n 2, 1) := by decide +kernel
theorem dX8_writeNumber_22 : decode cX8_writeNumber 22 = .ok (.bipush 10, 2) := by decide +kernel
theorem dX8_writeNumber_24 : decode cX8_writeNumber 24 = .ok (.imul, 1) := by decide +kernel
theorem dX8_writeNumber_25 : decode cX8_writeNumber 25 = .ok (.istore_n 2, 1) := by decide +kernel
theorem dX8_writeNumber_26 : decode cX8_writeNumber 26 = .ok (.iinc 3 1, 3) := by decide +kernel
theorem dX8_writeNumber_29 : decode cX8_writeNumber 29 = .ok (.goto (-25), 3) := by decide +kernel
theorem dX8_writeNumber_32 : decode cX8_writeNumber 32 = .ok (.iconst 0, 1) := by decide +kernel
theorem dX8_writeNumber_33 : decode cX8_writeNumber 33 = .ok (.istore_n 3, 1) := by decide +kernel
theorem dX8_writeNumber_34 : decode cX8_writeNumber 34 = .ok (.iload_n 3, 1) := by decide +kernel
theorem dX8_writeNumber_35 : decode cX8_writeNumber 35 = .ok (.iconst 5, 1) := by decide +kernel
theorem dX8_writeNumber_36 : decode cX8_writeNumber 36 = .ok (.if_icmp .ge 34, 3) := by decide +kernel
theorem dX8_writeNumber_39 : decode cX8_writeNumber 39 = .ok (.iload_n 2, 1) := by decide +kernel
theorem dX8_writeNumber_40 : decode cX8_writeNumber 40 = .ok (.ifCond .le 30, 3) := by decide +kernel
theorem dX8_writeNumber_43 : decode cX8_writeNumber 43 = .ok (.aload_n 0, 1) := by decide +kernel
theorem dX8_writeNumber_44 : decode cX8_writeNumber 44 = .ok (.getfield 9, 3) := by decide +kernel
theorem dX8_writeNumber_47 : decode cX8_writeNumber 47 = .ok (.bipush 48, 2) := by decide +kernel
theorem dX8_writeNumber_49 : decode cX8_writeNumber 49 = .ok (.iload_n 1, 1) := by decide +kernel
theorem dX8_writeNumber_50 : decode cX8_writeNumber 50 = .ok (.iload_n 2, 1) := by decide +kernel
theorem dX8_writeNumber_51 : decode cX8_writeNumber 51 = .ok (.idiv, 1) := by decide +kernel
theorem dX8_writeNumber_52 : decode cX8_writeNumber 52 = .ok (.bipush 10, 2) := by decide +kernel
theorem dX8_writeNumber_54 : decode cX8_writeNumber 54 = .ok (.irem, 1) := by decide +kernel
theorem dX8_writeNumber_55 : decode cX8_writeNumber 55 = .ok (.iadd, 1) := by decide +kernel
theorem dX8_writeNumber_56 : decode cX8_writeNumber 56 = .ok (.invokevirtual 41, 3) := by decide +kernel
theorem dX8_writeNumber_59 : decode cX8_writeNumber 59 = .ok (.iload_n 2, 1) := by decide +kernel
theorem dX8_writeNumber_60 : decode cX8_writeNumber 60 = .ok (.bipush 10, 2) := by decide +kernel
theorem dX8_writeNumber_62 : decode cX8_writeNumber 62 = .ok (.idiv, 1) := by decide +kernel
theorem dX8_writeNumber_63 : decode cX8_writeNumber 63 = .ok (.istore_n 2, 1) := by decide +kernel
theorem dX8_writeNumber_64 : decode cX8_writeNumber 64 = .ok (.iinc 3 1, 3) := by decide +kernel
theorem dX8_writeNumber_67 : decode cX8_writeNumber 67 = .ok (.goto (-33), 3) := by decide +kernel
theorem dX8_writeNumber_70 : decode cX8_writeNumber 70 = .ok (.return_, 1) := by decide +kernel
theorem dX8_writeRelation_0 : decode cX8_writeRelation 0 = .ok (.iload_n 1, 1) := by decide +kernel
theorem dX8_writeRelation_1 : decode cX8_writeRelation 1 = .ok (.iconst 1, 1) := by decide +kernel
theorem dX8_writeRelation_2 : decode cX8_writeRelation 2 = .ok (.iand, 1) := by decide +kernel
theorem dX8_writeRelation_3 : decode cX8_writeRelation 3 = .ok (.ifCond .eq 12, 3) := by decide +kernel
theorem dX8_writeRelation_6 : decode cX8_writeRelation 6 = .ok (.aload_n 0, 1) := by decide +kernel
theorem dX8_writeRelation_7 : decode cX8_writeRelation 7 = .ok (.getfield 9, 3) := by decide +kernel
theorem dX8_writeRelation_10 : decode cX8_writeRelation 10 = .ok (.bipush 60, 2) := by decide +kernel
theorem dX8_writeRelation_12 : decode cX8_writeRelation 12 = .ok (.invokevirtual 41, 3) := by decide +kernel
theorem dX8_writeRelation_15 : decode cX8_writeRelation 15 = .ok (.iload_n 1, 1) := by decide +kernel
theorem dX8_writeRelation_16 : decode cX8_writeRelation 16 = .ok (.iconst 4, 1) := by decide +kernel
theorem dX8_writeRelation_17 : decode cX8_writeRelation 17 = .ok (.iand, 1) := by decide +kernel
theorem dX8_writeRelation_18 : decode cX8_writeRelation 18 = .ok (.ifCond .eq 12, 3) := by decide +kernel
theorem dX8_writeRelation_21 : decode cX8_writeRelation 21 = .ok (.aload_n 0, 1) := by decide +kernel
theorem dX8_writeRelation_22 : decode cX8_writeRelation 22 = .ok (.getfield 9, 3) := by decide +kernel
theorem dX8_writeRelation_25 : decode cX8_writeRelation 25 = .ok (.bipush 62, 2) := by decide +kernel
theorem dX8_writeRelation_27 : decode cX8_writeRelation 27 = .ok (.invokevirtual 41, 3) := by decide +kernel
theorem dX8_writeRelation_30 : decode cX8_writeRelation 30 = .ok (.iload_n 1, 1) := by decide +kernel
theorem dX8_writeRelation_31 : decode cX8_writeRelation 31 = .ok (.iconst 2, 1) := by decide +kernel
theorem dX8_writeRelation_32 : decode cX8_writeRelation 32 = .ok (.iand, 1) := by decide +kernel
theorem dX8_writeRelation_33 : decode cX8_writeRelation 33 = .ok (.ifCond .eq 12, 3) := by decide +kernel
theorem dX8_writeRelation_36 : decode cX8_writeRelation 36 = .ok (.aload_n 0, 1) := by decide +kernel
theorem dX8_writeRelation_37 : decode cX8_writeRelation 37 = .ok (.getfield 9, 3) := by decide +kernel
theorem dX8_writeRelation_40 : decode cX8_writeRelation 40 = .ok (.bipush 61, 2) := by decide +kernel
theorem dX8_writeRelation_42 : decode cX8_writeRelation 42 = .ok (.invokevirtual 41, 3) := by decide +kernel
theorem dX8_writeRelation_45 : decode cX8_writeRelation 45 = .ok (.return_, 1) := by decide +kernel
theorem dX8_writeSum_0 : decode cX8_writeSum 0 = .ok (.iload_n 2, 1) := by decide +kernel
theorem dX8_writeSum_1 : decode cX8_writeSum 1 = .ok (.iconst 0, 1) := by decide +kernel
theorem dX8_writeSum_2 : decode cX8_writeSum 2 = .ok (.invokestatic 85, 3) := by decide +kernel
theorem dX8_writeSum_5 : decode cX8_writeSum 5 = .ok (.istore 4, 2) := by decide +kernel
theorem dX8_writeSum_7 : decode cX8_writeSum 7 = .ok (.iload 4, 2) := by decide +kernel
theorem dX8_writeSum_9 : decode cX8_writeSum 9 = .ok (.iload_n 3, 1) := by decide +kernel
theorem dX8_writeSum_10 : decode cX8_writeSum 10 = .ok (.if_icmp .ge 47, 3) := by decide +kernel
theorem dX8_writeSum_13 : decode cX8_writeSum 13 = .ok (.iload 4, 2) := by decide +kernel
theorem dX8_writeSum_15 : decode cX8_writeSum 15 = .ok (.aload_n 1, 1) := by decide +kernel
theorem dX8_writeSum_16 : decode cX8_writeSum 16 = .ok (.invokevirtual 90, 3) := by decide +kernel
theorem dX8_writeSum_19 : decode cX8_writeSum 19 = .ok (.if_icmp .ge 38, 3) := by decide +kernel
theorem dX8_writeSum_22 : decode cX8_writeSum 22 = .ok (.iload 4, 2) := by decide +kernel
theorem dX8_writeSum_24 : decode cX8_writeSum 24 = .ok (.iload_n 2, 1) := by decide +kernel
theorem dX8_writeSum_25 : decode cX8_writeSum 25 = .ok (.if_icmp .le 16, 3) := by decide +kernel
theorem dX8_writeSum_28 : decode cX8_writeSum 28 = .ok (.aload_n 0, 1) := by decide +kernel
theorem dX8_writeSum_29 : decode cX8_writeSum 29 = .ok (.getfield 9, 3) := by decide +kernel
theorem dX8_writeSum_32 : decode cX8_writeSum 32 = .ok (.aload_n 1, 1) := by decide +kernel
theorem dX8_writeSum_33 : decode cX8_writeSum 33 = .ok (.iload 4, 2) := by decide +kernel
theorem dX8_writeSum_35 : decode cX8_writeSum 35 = .ok (.invokevirtual 93, 3) := by decide +kernel
theorem dX8_writeSum_38 : decode cX8_writeSum 38 = .ok (.invokevirtual 41, 3) := by decide +kernel
theorem dX8_writeSum_41 : decode cX8_writeSum 41 = .ok (.aload_n 0, 1) := by decide +kernel
theorem dX8_writeSum_42 : decode cX8_writeSum 42 = .ok (.aload_n 1, 1) := by decide +kernel
theorem dX8_writeSum_43 : decode cX8_writeSum 43 = .ok (.iload 4, 2) := by decide +kernel
theorem dX8_writeSum_45 : decode cX8_writeSum 45 = .ok (.invokevirtual 96, 3) := by decide +kernel
theorem dX8_writeSum_48 : decode cX8_writeSum 48 = .ok (.invokevirtual 99, 3) := by decide +kernel
theorem dX8_writeSum_51 : decode cX8_writeSum 51 = .ok (.iinc 4 1, 3) := by decide +kernel
theorem dX8_writeSum_54 : decode cX8_writeSum 54 = .ok (.goto (-47), 3) := by decide +kernel
theorem dX8_writeSum_57 : decode cX8_writeSum 57 = .ok (.return_, 1) := by decide +kernel
theorem dX8_writeValue_0 : decode cX8_writeValue 0 = .ok (.aload_n 0, 1) := by decide +kernel
theorem dX8_writeValue_1 : decode cX8_writeValue 1 = .ok (.invokevirtual 50, 3) := by decide +kernel
theorem dX8_writeValue_4 : decode cX8_writeValue 4 = .ok (.iload_n 1, 1) := by decide +kernel
theorem dX8_writeValue_5 : decode cX8_writeValue 5 = .ok (.ifCond .lt 11, 3) := by decide +kernel
theorem dX8_writeValue_8 : decode cX8_writeValue 8 = .ok (.aload_n 0, 1) := by decide +kernel
theorem dX8_writeValue_9 : decode cX8_writeValue 9 = .ok (.iload_n 1, 1) := by decide +kernel
theorem dX8_writeValue_10 : decode cX8_writeValue 10 = .ok (.invokevirtual 53, 3) := by decide +kernel
theorem dX8_writeValue_13 : decode cX8_writeValue 13 = .ok (.goto 58, 3) := by decide +kernel
theorem dX8_writeValue_16 : decode cX8_writeValue 16 = .ok (.iload_n 1, 1) := by decide +kernel
theorem dX8_writeValue_17 : decode cX8_writeValue 17 = .ok (.iconst (-1), 1) := by decide +kernel
theorem dX8_writeValue_18 : decode cX8_writeValue 18 = .ok (.if_icmp .ne 33, 3) := by decide +kernel
theorem dX8_writeValue_21 : decode cX8_writeValue 21 = .ok (.aload_n 0, 1) := by decide +kernel
theorem dX8_writeValue_22 : decode cX8_writeValue 22 = .ok (.getfield 9, 3) := by decide +kernel
theorem dX8_writeValue_25 : decode cX8_writeValue 25 = .ok (.bipush 100, 2) := by decide +kernel
theorem dX8_writeValue_27 : decode cX8_writeValue 27 = .ok (.invokevirtual 41, 3) := by decide +kernel
theorem dX8_writeValue_30 : decode cX8_writeValue 30 = .ok (.aload_n 0, 1) := by decide +kernel
theorem dX8_writeValue_31 : decode cX8_writeValue 31 = .ok (.getfield 9, 3) := by decide +kernel
theorem dX8_writeValue_34 : decode cX8_writeValue 34 = .ok (.bipush 97, 2) := by decide +kernel
theorem dX8_writeValue_36 : decode cX8_writeValue 36 = .ok (.invokevirtual 41, 3) := by decide +kernel
theorem dX8_writeValue_39 : decode cX8_writeValue 39 = .ok (.aload_n 0, 1) := by decide +kernel
theorem dX8_writeValue_40 : decode cX8_writeValue 40 = .ok (.getfield 9, 3) := by decide +kernel
theorem dX8_writeValue_43 : decode cX8_writeValue 43 = .ok (.bipush 121, 2) := by decide +kernel
theorem dX8_writeValue_45 : decode cX8_writeValue 45 = .ok (.invokevirtual 41, 3) := by decide +kernel
theorem dX8_writeValue_48 : decode cX8_writeValue 48 = .ok (.goto 23, 3) := by decide +kernel
theorem dX8_writeValue_51 : decode cX8_writeValue 51 = .ok (.aload_n 0, 1) := by decide +kernel
theorem dX8_writeValue_52 : decode cX8_writeValue 52 = .ok (.getfield 9, 3) := by decide +kernel
theorem dX8_writeValue_55 : decode cX8_writeValue 55 = .ok (.bipush 115, 2) := by decide +kernel
theorem dX8_writeValue_57 : decode cX8_writeValue 57 = .ok (.invokevirtual 41, 3) := by decide +kernel
theorem dX8_writeValue_60 : decode cX8_writeValue 60 = .ok (.aload_n 0, 1) := by decide +kernel
theorem dX8_writeValue_61 : decode cX8_writeValue 61 = .ok (.getfield 9, 3) := by decide +kernel
theorem dX8_writeValue_64 : decode cX8_writeValue 64 = .ok (.bipush 46, 2) := by decide +kernel
theorem dX8_writeValue_66 : decode cX8_writeValue 66 = .ok (.iload_n 1, 1) := by decide +kernel
theorem dX8_writeValue_67 : decode cX8_writeValue 67 = .ok (.isub, 1) := by decide +kernel
theorem dX8_writeValue_68 : decode cX8_writeValue 68 = .ok (.invokevirtual 41, 3) := by decide +kernel
theorem dX8_writeValue_71 : decode cX8_writeValue 71 = .ok (.return_, 1) := by decide +kernel
theorem dX9_init_0 : decode cX9_init 0 = .ok (.aload_n 0, 1) := by decide +kernel
theorem dX9_init_1 : decode cX9_init 1 = .ok (.invokespecial 3, 3) := by decide +kernel
theorem dX9_init_4 : decode cX9_init 4 = .ok (.aload_n 0, 1) := by decide +kernel
theorem dX9_init_5 : decode cX9_init 5 = .ok (.iload_n 1, 1) := by decide +kernel
theorem dX9_init_6 : decode cX9_init 6 = .ok (.iconst 0, 1) := by decide +kernel
theorem dX9_init_7 : decode cX9_init 7 = .ok (.invokestatic 9, 3) := by decide +kernel
theorem dX9_init_10 : decode cX9_init 10 = .ok (.newarray .byte, 2) := by decide +kernel
theorem dX9_init_12 : decode cX9_init 12 = .ok (.putfield 15, 3) := by decide +kernel
theorem dX9_init_15 : decode cX9_init 15 = .ok (.return_, 1) := by decide +kernel
theorem dX9_size_0 : decode cX9_size 0 = .ok (.aload_n 0, 1) := by decide +kernel
theorem dX9_size_1 : decode cX9_size 1 = .ok (.getfield 21, 3) := by decide +kernel
theorem dX9_size_4 : decode cX9_size 4 = .ok (.ireturn, 1) := by decide +kernel
theorem dX9_at_0 : decode cX9_at 0 = .ok (.iload_n 1, 1) := by decide +kernel
theorem dX9_at_1 : decode cX9_at 1 = .ok (.ifCond .lt 33, 3) := by decide +kernel
theorem dX9_at_4 : decode cX9_at 4 = .ok (.iload_n 1, 1) := by decide +kernel
theorem dX9_at_5 : decode cX9_at 5 = .ok (.aload_n 0, 1) := by decide +kernel
theorem dX9_at_6 : decode cX9_at 6 = .ok (.getfield 21, 3) := by decide +kernel
theorem dX9_at_9 : decode cX9_at 9 = .ok (.if_icmp .ge 25, 3) := by decide +kernel
theorem dX9_at_12 : decode cX9_at 12 = .ok (.iload_n 1, 1) := by decide +kernel
theorem dX9_at_13 : decode cX9_at 13 = .ok (.aload_n 0, 1) := by decide +kernel
theorem dX9_at_14 : decode cX9_at 14 = .ok (.getfield 15, 3) := by decide +kernel
theorem dX9_at_17 : decode cX9_at 17 = .ok (.arraylength, 1) := by decide +kernel
theorem dX9_at_18 : decode cX9_at 18 = .ok (.if_icmp .ge 16, 3) := by decide +kernel
theorem dX9_at_21 : decode cX9_at 21 = .ok (.aload_n 0, 1) := by decide +kernel
theorem dX9_at_22 : decode cX9_at 22 = .ok (.getfield 15, 3) := by decide +kernel
theorem dX9_at_25 : decode cX9_at 25 = .ok (.iload_n 1, 1) := by decide +kernel
theorem dX9_at_26 : decode cX9_at 26 = .ok (.baload, 1) := by decide +kernel
theorem dX9_at_27 : decode cX9_at 27 = .ok (.sipush 255, 3) := by decide +kernel
theorem dX9_at_30 : decode cX9_at 30 = .ok (.iand, 1) := by decide +kernel
theorem dX9_at_31 : decode cX9_at 31 = .ok (.goto 4, 3) := by decide +kernel
theorem dX9_at_34 : decode cX9_at 34 = .ok (.iconst (-1), 1) := by decide +kernel
theorem dX9_at_35 : decode cX9_at 35 = .ok (.ireturn, 1) := by decide +kernel
theorem dX9_put_0 : decode cX9_put 0 = .ok (.aload_n 0, 1) := by decide +kernel
theorem dX9_put_1 : decode cX9_put 1 = .ok (.getfield 21, 3) := by decide +kernel
theorem dX9_put_4 : decode cX9_put 4 = .ok (.ifCond .lt 36, 3) := by decide +kernel
theorem dX9_put_7 : decode cX9_put 7 = .ok (.aload_n 0, 1) := by decide +kernel
theorem dX9_put_8 : decode cX9_put 8 = .ok (.getfield 21, 3) := by decide +kernel
theorem dX9_put_11 : decode cX9_put 11 = .ok (.aload_n 0, 1) := by decide +kernel
theorem dX9_put_12 : decode cX9_put 12 = .ok (.getfield 15, 3) := by decide +kernel
theorem dX9_put_15 : decode cX9_put 15 = .ok (.arraylength, 1) := by decide +kernel
theorem dX9_put_16 : decode cX9_put 16 = .ok (.if_icmp .ge 24, 3) := by decide +kernel
theorem dX9_put_19 : decode cX9_put 19 = .ok (.aload_n 0, 1) := by decide +kernel
theorem dX9_put_20 : decode cX9_put 20 = .ok (.getfield 15, 3) := by decide +kernel
theorem dX9_put_23 : decode cX9_put 23 = .ok (.aload_n 0, 1) := by decide +kernel
theorem dX9_put_24 : decode cX9_put 24 = .ok (.getfield 21, 3) := by decide +kernel
theorem dX9_put_27 : decode cX9_put 27 = .ok (.iload_n 1, 1) := by decide +kernel
theorem dX9_put_28 : decode cX9_put 28 = .ok (.i2b, 1) := by decide +kernel
theorem dX9_put_29 : decode cX9_put 29 = .ok (.bastore, 1) := by decide +kernel
theorem dX9_put_30 : decode cX9_put 30 = .ok (.aload_n 0, 1) := by decide +kernel
theorem dX9_put_31 : decode cX9_put 31 = .ok (.dup, 1) := by decide +kernel
theorem dX9_put_32 : decode cX9_put 32 = .ok (.getfield 21, 3) := by decide +kernel
theorem dX9_put_35 : decode cX9_put 35 = .ok (.iconst 1, 1) := by decide +kernel
theorem dX9_put_36 : decode cX9_put 36 = .ok (.iadd, 1) := by decide +kernel
theorem dX9_put_37 : decode cX9_put 37 = .ok (.putfield 21, 3) := by decide +kernel
theorem dX9_put_40 : decode cX9_put 40 = .ok (.return_, 1) := by decide +kernel
theorem dX9_putNumber_0 : decode cX9_putNumber 0 = .ok (.bipush 24, 2) := by decide +kernel
theorem dX9_putNumber_2 : decode cX9_putNumber 2 = .ok (.istore_n 2, 1) := by decide +kernel
theorem dX9_putNumber_3 : decode cX9_putNumber 3 = .ok (.iload_n 2, 1) := by decide +kernel
theorem dX9_putNumber_4 : decode cX9_putNumber 4 = .ok (.ifCond .lt 16, 3) := by decide +kernel
theorem dX9_putNumber_7 : decode cX9_putNumber 7 = .ok (.aload_n 0, 1) := by decide +kernel
theorem dX9_putNumber_8 : decode cX9_putNumber 8 = .ok (.iload_n 1, 1) := by decide +kernel
theorem dX9_putNumber_9 : decode cX9_putNumber 9 = .ok (.iload_n 2, 1) := by decide +kernel
theorem dX9_putNumber_10 : decode cX9_putNumber 10 = .ok (.ishr, 1) := by decide +kernel
theorem dX9_putNumber_11 : decode cX9_putNumber 11 = .ok (.invokevirtual 25, 3) := by decide +kernel
theorem dX9_putNumber_14 : decode cX9_putNumber 14 = .ok (.iinc 2 (-8), 3) := by decide +kernel
theorem dX9_putNumber_17 : decode cX9_putNumber 17 = .ok (.goto (-14), 3) := by decide +kernel
theorem dX9_putNumber_20 : decode cX9_putNumber 20 = .ok (.return_, 1) := by decide +kernel
theorem dX9_cut_0 : decode cX9_cut 0 = .ok (.iload_n 1, 1) := by decide +kernel
theorem dX9_cut_1 : decode cX9_cut 1 = .ok (.ifCond .lt 16, 3) := by decide +kernel
theorem dX9_cut_4 : decode cX9_cut 4 = .ok (.iload_n 1, 1) := by decide +kernel
theorem dX9_cut_5 : decode cX9_cut 5 = .ok (.aload_n 0, 1) := by decide +kernel
theorem dX9_cut_6 : decode cX9_cut 6 = .ok (.getfield 21, 3) := by decide +kernel
theorem dX9_cut_9 : decode cX9_cut 9 = .ok (.if_icmp .gt 8, 3) := by decide +kernel
theorem dX9_cut_12 : decode cX9_cut 12 = .ok (.aload_n 0, 1) := by decide +kernel
theorem dX9_cut_13 : decode cX9_cut 13 = .ok (.iload_n 1, 1) := by decide +kernel
theorem dX9_cut_14 : decode cX9_cut 14 = .ok (.putfield 21, 3) := by decide +kernel
theorem dX9_cut_17 : decode cX9_cut 17 = .ok (.return_, 1) := by decide +kernel
theorem dX10_init_0 : decode cX10_init 0 = .ok (.aload_n 0, 1) := by decide +kernel
theorem dX10_init_1 : decode cX10_init 1 = .ok (.invokespecial 3, 3) := by decide +kernel
theorem dX10_init_4 : decode cX10_init 4 = .ok (.aload_n 0, 1) := by decide +kernel
theorem dX10_init_5 : decode cX10_init 5 = .ok (.iconst 1, 1) := by decide +kernel
theorem dX10_init_6 : decode cX10_init 6 = .ok (.putfield 9, 3) := by decide +kernel
theorem dX10_init_9 : decode cX10_init 9 = .ok (.aload_n 0, 1) := by decide +kernel
theorem dX10_init_10 : decode cX10_init 10 = .ok (.iconst 3, 1) := by decide +kernel
theorem dX10_init_11 : decode cX10_init 11 = .ok (.newarray .int, 2) := by decide +kernel
theorem dX10_init_13 : decode cX10_init 13 = .ok (.putfield 15, 3) := by decide +kernel
theorem dX10_init_16 : decode cX10_init 16 = .ok (.aload_n 0, 1) := by decide +kernel
theorem dX10_init_17 : decode cX10_init 17 = .ok (.bipush 18, 2) := by decide +kernel
theorem dX10_init_19 : decode cX10_init 19 = .ok (.newarray .int, 2) := by decide +kernel
theorem dX10_init_21 : decode cX10_init 21 = .ok (.putfield 19, 3) := by decide +kernel
theorem dX10_init_24 : decode cX10_init 24 = .ok (.aload_n 0, 1) := by decide +kernel
theorem dX10_init_25 : decode cX10_init 25 = .ok (.iconst 5, 1) := by decide +kernel
theorem dX10_init_26 : decode cX10_init 26 = .ok (.anewarray 22, 3) := by decide +kernel
theorem dX10_init_29 : decode cX10_init 29 = .ok (.putfield 24, 3) := by decide +kernel
theorem dX10_init_32 : decode cX10_init 32 = .ok (.aload_n 0, 1) := by decide +kernel
theorem dX10_init_33 : decode cX10_init 33 = .ok (.iconst 5, 1) := by decide +kernel
theorem dX10_init_34 : decode cX10_init 34 = .ok (.newarray .long, 2) := by decide +kernel
theorem dX10_init_36 : decode cX10_init 36 = .ok (.putfield 28, 3) := by decide +kernel
theorem dX10_init_39 : decode cX10_init 39 = .ok (.aload_n 0, 1) := by decide +kernel
theorem dX10_init_40 : decode cX10_init 40 = .ok (.new 32, 3) := by decide +kernel
theorem dX10_init_43 : decode cX10_init 43 = .ok (.dup, 1) := by decide +kernel
theorem dX10_init_44 : decode cX10_init 44 = .ok (.iconst 0, 1) := by decide +kernel
theorem dX10_init_45 : decode cX10_init 45 = .ok (.iconst 0, 1) := by decide +kernel
theorem dX10_init_46 : decode cX10_init 46 = .ok (.invokespecial 34, 3) := by decide +kernel
theorem dX10_init_49 : decode cX10_init 49 = .ok (.putfield 37, 3) := by decide +kernel
theorem dX10_init_52 : decode cX10_init 52 = .ok (.aload_n 0, 1) := by decide +kernel
theorem dX10_init_53 : decode cX10_init 53 = .ok (.aload_n 1, 1) := by decide +kernel
theorem dX10_init_54 : decode cX10_init 54 = .ok (.putfield 41, 3) := by decide +kernel
theorem dX10_init_57 : decode cX10_init 57 = .ok (.iconst 0, 1) := by decide +kernel
theorem dX10_init_58 : decode cX10_init 58 = .ok (.istore_n 2, 1) := by decide +kernel
theorem dX10_init_59 : decode cX10_init 59 = .ok (.iload_n 2, 1) := by decide +kernel
theorem dX10_init_60 : decode cX10_init 60 = .ok (.aload_n 0, 1) := by decide +kernel
theorem dX10_init_61 : decode cX10_init 61 = .ok (.getfield 24, 3) := by decide +kernel
theorem dX10_init_64 : decode cX10_init 64 = .ok (.arraylength, 1) := by decide +kernel
theorem dX10_init_65 : decode cX10_init 65 = .ok (.if_icmp .ge 22, 3) := by decide +kernel
theorem dX10_init_68 : decode cX10_init 68 = .ok (.aload_n 0, 1) := by decide +kernel
theorem dX10_init_69 : decode cX10_init 69 = .ok (.getfield 24, 3) := by decide +kernel
theorem dX10_init_72 : decode cX10_init 72 = .ok (.iload_n 2, 1) := by decide +kernel
theorem dX10_init_73 : decode cX10_init 73 = .ok (.new 22, 3) := by decide +kernel
theorem dX10_init_76 : decode cX10_init 76 = .ok (.dup, 1) := by decide +kernel
theorem dX10_init_77 : decode cX10_init 77 = .ok (.invokespecial 45, 3) := by decide +kernel
theorem dX10_init_80 : decode cX10_init 80 = .ok (.aastore, 1) := by decide +kernel
theorem dX10_init_81 : decode cX10_init 81 = .ok (.iinc 2 1, 3) := by decide +kernel
theorem dX10_init_84 : decode cX10_init 84 = .ok (.goto (-25), 3) := by decide +kernel
theorem dX10_init_87 : decode cX10_init 87 = .ok (.aload_n 0, 1) := by decide +kernel
theorem dX10_init_88 : decode cX10_init 88 = .ok (.getfield 15, 3) := by decide +kernel
theorem dX10_init_91 : decode cX10_init 91 = .ok (.iconst 0, 1) := by decide +kernel
theorem dX10_init_92 : decode cX10_init 92 = .ok (.iconst 1, 1) := by decide +kernel
theorem dX10_init_93 : decode cX10_init 93 = .ok (.iastore, 1) := by decide +kernel
theorem dX10_init_94 : decode cX10_init 94 = .ok (.return_, 1) := by decide +kernel
theorem dX10_size_0 : decode cX10_size 0 = .ok (.aload_n 0, 1) := by decide +kernel
theorem dX10_size_1 : decode cX10_size 1 = .ok (.getfield 9, 3) := by decide +kernel
theorem dX10_size_4 : decode cX10_size 4 = .ok (.ireturn, 1) := by decide +kernel
theorem dX10_renew_0 : decode cX10_renew 0 = .ok (.aload_n 0, 1) := by decide +kernel
theorem dX10_renew_1 : decode cX10_renew 1 = .ok (.iload_n 1, 1) := by decide +kernel
theorem dX10_renew_2 : decode cX10_renew 2 = .ok (.putfield 9, 3) := by decide +kernel
theorem dX10_renew_5 : decode cX10_renew 5 = .ok (.iconst 0, 1) := by decide +kernel
theorem dX10_renew_6 : decode cX10_renew 6 = .ok (.istore_n 2, 1) := by decide +kernel
theorem dX10_renew_7 : decode cX10_renew 7 = .ok (.iload_n 2, 1) := by decide +kernel
theorem dX10_renew_8 : decode cX10_renew 8 = .ok (.iconst 3, 1) := by decide +kernel
theorem dX10_renew_9 : decode cX10_renew 9 = .ok (.if_icmp .ge 16, 3) := by decide +kernel
theorem dX10_renew_12 : decode cX10_renew 12 = .ok (.aload_n 0, 1) := by decide +kernel
theorem dX10_renew_13 : decode cX10_renew 13 = .ok (.getfield 15, 3) := by decide +kernel
theorem dX10_renew_16 : decode cX10_renew 16 = .ok (.iload_n 2, 1) := by decide +kernel
theorem dX10_renew_17 : decode cX10_renew 17 = .ok (.iconst 1, 1) := by decide +kernel
theorem dX10_renew_18 : decode cX10_renew 18 = .ok (.iastore, 1) := by decide +kernel
theorem dX10_renew_19 : decode cX10_renew 19 = .ok (.iinc 2 1, 3) := by decide +kernel
theorem dX10_renew_22 : decode cX10_renew 22 = .ok (.goto (-15), 3) := by decide +kernel
theorem dX10_renew_25 : decode cX10_renew 25 = .ok (.iconst 0, 1) := by decide +kernel
theorem dX10_renew_26 : decode cX10_renew 26 = .ok (.istore_n 2, 1) := by decide +kernel
theorem dX10_renew_27 : decode cX10_renew 27 = .ok (.iload_n 2, 1) := by decide +kernel
theorem dX10_renew_28 : decode cX10_renew 28 = .ok (.aload_n 0, 1) := by decide +kernel
theorem dX10_renew_29 : decode cX10_renew 29 = .ok (.getfield 19, 3) := by decide +kernel
theorem dX10_renew_32 : decode cX10_renew 32 = .ok (.arraylength, 1) := by decide +kernel
theorem dX10_renew_33 : decode cX10_renew 33 = .ok (.if_icmp .ge 16, 3) := by decide +kernel
theorem dX10_renew_36 : decode cX10_renew 36 = .ok (.aload_n 0, 1) := by decide +kernel
theorem dX10_renew_37 : decode cX10_renew 37 = .ok (.getfield 19, 3) := by decide +kernel
theorem dX10_renew_40 : decode cX10_renew 40 = .ok (.iload_n 2, 1) := by decide +kernel
theorem dX10_renew_41 : decode cX10_renew 41 = .ok (.iconst 0, 1) := by decide +kernel
theorem dX10_renew_42 : decode cX10_renew 42 = .ok (.iastore, 1) := by decide +kernel
theorem dX10_renew_43 : decode cX10_renew 43 = .ok (.iinc 2 1, 3) := by decide +kernel
theorem dX10_renew_46 : decode cX10_renew 46 = .ok (.goto (-19), 3) := by decide +kernel
theorem dX10_renew_49 : decode cX10_renew 49 = .ok (.return_, 1) := by decide +kernel
theorem dX10_weigh_0 : decode cX10_weigh 0 = .ok (.iload_n 1, 1) := by decide +kernel
theorem dX10_weigh_1 : decode cX10_weigh 1 = .ok (.ifCond .lt 26, 3) := by decide +kernel
theorem dX10_weigh_4 : decode cX10_weigh 4 = .ok (.iload_n 1, 1) := by decide +kernel
theorem dX10_weigh_5 : decode cX10_weigh 5 = .ok (.aload_n 0, 1) := by decide +kernel
theorem dX10_weigh_6 : decode cX10_weigh 6 = .ok (.getfield 9, 3) := by decide +kernel
theorem dX10_weigh_9 : decode cX10_weigh 9 = .ok (.if_icmp .ge 18, 3) := by decide +kernel
theorem dX10_weigh_12 : decode cX10_weigh 12 = .ok (.iload_n 1, 1) := by decide +kernel
theorem dX10_weigh_13 : decode cX10_weigh 13 = .ok (.iconst 3, 1) := by decide +kernel
theorem dX10_weigh_14 : decode cX10_weigh 14 = .ok (.if_icmp .ge 13, 3) := by decide +kernel
theorem dX10_weigh_17 : decode cX10_weigh 17 = .ok (.iload_n 2, 1) := by decide +kernel
theorem dX10_weigh_18 : decode cX10_weigh 18 = .ok (.iconst 1, 1) := by decide +kernel
theorem dX10_weigh_19 : decode cX10_weigh 19 = .ok (.if_icmp .lt 8, 3) := by decide +kernel
theorem dX10_weigh_22 : decode cX10_weigh 22 = .ok (.iload_n 2, 1) := by decide +kernel
theorem dX10_weigh_23 : decode cX10_weigh 23 = .ok (.iconst 4, 1) := by decide +kernel
theorem dX10_weigh_24 : decode cX10_weigh 24 = .ok (.if_icmp .le 5, 3) := by decide +kernel
theorem dX10_weigh_27 : decode cX10_weigh 27 = .ok (.iconst 0, 1) := by decide +kernel
theorem dX10_weigh_28 : decode cX10_weigh 28 = .ok (.ireturn, 1) := by decide +kernel
theorem dX10_weigh_29 : decode cX10_weigh 29 = .ok (.aload_n 0, 1) := by decide +kernel
theorem dX10_weigh_30 : decode cX10_weigh 30 = .ok (.getfield 15, 3) := by decide +kernel
theorem dX10_weigh_33 : decode cX10_weigh 33 = .ok (.iload_n 1, 1) := by decide +kernel
theorem dX10_weigh_34 : decode cX10_weigh 34 = .ok (.iload_n 2, 1) := by decide +kernel
theorem dX10_weigh_35 : decode cX10_weigh 35 = .ok (.iastore, 1) := by decide +kernel
theorem dX10_weigh_36 : decode cX10_weigh 36 = .ok (.iconst 1, 1) := by decide +kernel
theorem dX10_weigh_37 : decode cX10_weigh 37 = .ok (.ireturn, 1) := by decide +kernel
theorem dX10_shift_0 : decode cX10_shift 0 = .ok (.iload_n 1, 1) := by decide +kernel
theorem dX10_shift_1 : decode cX10_shift 1 = .ok (.ifCond .lt 26, 3) := by decide +kernel
theorem dX10_shift_4 : decode cX10_shift 4 = .ok (.iload_n 1, 1) := by decide +kernel
theorem dX10_shift_5 : decode cX10_shift 5 = .ok (.aload_n 0, 1) := by decide +kernel
theorem dX10_shift_6 : decode cX10_shift 6 = .ok (.getfield 9, 3) := by decide +kernel
theorem dX10_shift_9 : decode cX10_shift 9 = .ok (.if_icmp .ge 18, 3) := by decide +kernel
theorem dX10_shift_12 : decode cX10_shift 12 = .ok (.iload_n 1, 1) := by decide +kernel
theorem dX10_shift_13 : decode cX10_shift 13 = .ok (.iconst 3, 1) := by decide +kernel
theorem dX10_shift_14 : decode cX10_shift 14 = .ok (.if_icmp .ge 13, 3) := by decide +kernel
theorem dX10_shift_17 : decode cX10_shift 17 = .ok (.iload_n 2, 1) := by decide +kernel
theorem dX10_shift_18 : decode cX10_shift 18 = .ok (.ifCond .lt 9, 3) := by decide +kernel
theorem dX10_shift_21 : decode cX10_shift 21 = .ok (.iload_n 2, 1) := by decide +kernel
theorem dX10_shift_22 : decode cX10_shift 22 = .ok (.bipush 6, 2) := by decide +kernel
theorem dX10_shift_24 : decode cX10_shift 24 = .ok (.if_icmp .lt 5, 3) := by decide +kernel
theorem dX10_shift_27 : decode cX10_shift 27 = .ok (.iconst 0, 1) := by decide +kernel
theorem dX10_shift_28 : decode cX10_shift 28 = .ok (.ireturn, 1) := by decide +kernel
theorem dX10_shift_29 : decode cX10_shift 29 = .ok (.iload_n 3, 1) := by decide +kernel
theorem dX10_shift_30 : decode cX10_shift 30 = .ok (.bipush (-99), 2) := by decide +kernel
theorem dX10_shift_32 : decode cX10_shift 32 = .ok (.if_icmp .lt 9, 3) := by decide +kernel
theorem dX10_shift_35 : decode cX10_shift 35 = .ok (.iload_n 3, 1) := by decide +kernel
theorem dX10_shift_36 : decode cX10_shift 36 = .ok (.bipush 99, 2) := by decide +kernel
theorem dX10_shift_38 : decode cX10_shift 38 = .ok (.if_icmp .le 5, 3) := by decide +kernel
theorem dX10_shift_41 : decode cX10_shift 41 = .ok (.iconst 0, 1) := by decide +kernel
theorem dX10_shift_42 : decode cX10_shift 42 = .ok (.ireturn, 1) := by decide +kernel
theorem dX10_shift_43 : decode cX10_shift 43 = .ok (.aload_n 0, 1) := by decide +kernel
theorem dX10_shift_44 : decode cX10_shift 44 = .ok (.getfield 19, 3) := by decide +kernel
theorem dX10_shift_47 : decode cX10_shift 47 = .ok (.iload_n 1, 1) := by decide +kernel
theorem dX10_shift_48 : decode cX10_shift 48 = .ok (.bipush 6, 2) := by decide +kernel
theorem dX10_shift_50 : decode cX10_shift 50 = .ok (.imul, 1) := by decide +kernel
theorem dX10_shift_51 : decode cX10_shift 51 = .ok (.iload_n 2, 1) := by decide +kernel
theorem dX10_shift_52 : decode cX10_shift 52 = .ok (.iadd, 1) := by decide +kernel
theorem dX10_shift_53 : decode cX10_shift 53 = .ok (.iload_n 3, 1) := by decide +kernel
theorem dX10_shift_54 : decode cX10_shift 54 = .ok (.iastore, 1) := by decide +kernel
theorem dX10_shift_55 : decode cX10_shift 55 = .ok (.iconst 1, 1) := by decide +kernel
theorem dX10_shift_56 : decode cX10_shift 56 = .ok (.ireturn, 1) := by decide +kernel
theorem dX10_weightOf_0 : decode cX10_weightOf 0 = .ok (.iload_n 1, 1) := by decide +kernel
theorem dX10_weightOf_1 : decode cX10_weightOf 1 = .ok (.ifCond .lt 18, 3) := by decide +kernel
theorem dX10_weightOf_4 : decode cX10_weightOf 4 = .ok (.iload_n 1, 1) := by decide +kernel
theorem dX10_weightOf_5 : decode cX10_weightOf 5 = .ok (.iconst 3, 1) := by decide +kernel
theorem dX10_weightOf_6 : decode cX10_weightOf 6 = .ok (.if_icmp .ge 13, 3) := by decide +kernel
theorem dX10_weightOf_9 : decode cX10_weightOf 9 = .ok (.aload_n 0, 1) := by decide +kernel
theorem dX10_weightOf_10 : decode cX10_weightOf 10 = .ok (.getfield 15, 3) := by decide +kernel
theorem dX10_weightOf_13 : decode cX10_weightOf 13 = .ok (.iload_n 1, 1) := by decide +kernel
theorem dX10_weightOf_14 : decode cX10_weightOf 14 = .ok (.iaload, 1) := by decide +kernel
theorem dX10_weightOf_15 : decode cX10_weightOf 15 = .ok (.i2l, 1) := by decide +kernel
theorem dX10_weightOf_16 : decode cX10_weightOf 16 = .ok (.goto 4, 3) := by decide +kernel
theorem dX10_weightOf_19 : decode cX10_weightOf 19 = .ok (.lconst 0, 1) := by decide +kernel
theorem dX10_weightOf_20 : decode cX10_weightOf 20 = .ok (.lreturn, 1) := by decide +kernel
theorem dX10_power_0 : decode cX10_power 0 = .ok (.lconst 0, 1) := by decide +kernel
theorem dX10_power_1 : decode cX10_power 1 = .ok (.lstore_n 2, 1) := by decide +kernel
theorem dX10_power_2 : decode cX10_power 2 = .ok (.iconst 0, 1) := by decide +kernel
theorem dX10_power_3 : decode cX10_power 3 = .ok (.istore 4, 2) := by decide +kernel
theorem dX10_power_5 : decode cX10_power 5 = .ok (.iload 4, 2) := by decide +kernel
theorem dX10_power_7 : decode cX10_power 7 = .ok (.aload_n 0, 1) := by decide +kernel
theorem dX10_power_8 : decode cX10_power 8 = .ok (.getfield 9, 3) := by decide +kernel
theorem dX10_power_11 : decode cX10_power 11 = .ok (.if_icmp .ge 18, 3) := by decide +kernel
theorem dX10_power_14 : decode cX10_power 14 = .ok (.lload_n 2, 1) := by decide +kernel
theorem dX10_power_15 : decode cX10_power 15 = .ok (.aload_n 0, 1) := by decide +kernel
theorem dX10_power_16 : decode cX10_power 16 = .ok (.iload 4, 2) := by decide +kernel
theorem dX10_power_18 : decode cX10_power 18 = .ok (.invokevirtual 46, 3) := by decide +kernel
theorem dX10_power_21 : decode cX10_power 21 = .ok (.ladd, 1) := by decide +kernel
theorem dX10_power_22 : decode cX10_power 22 = .ok (.lstore_n 2, 1) := by decide +kernel
theorem dX10_power_23 : decode cX10_power 23 = .ok (.iinc 4 1, 3) := by decide +kernel
theorem dX10_power_26 : decode cX10_power 26 = .ok (.goto (-21), 3) := by decide +kernel
theorem dX10_power_29 : decode cX10_power 29 = .ok (.lconst 1, 1) := by decide +kernel
theorem dX10_power_30 : decode cX10_power 30 = .ok (.lstore 4, 2) := by decide +kernel
theorem dX10_power_32 : decode cX10_power 32 = .ok (.iconst 0, 1) := by decide +kernel
theorem dX10_power_33 : decode cX10_power 33 = .ok (.istore 6, 2) := by decide +kernel
theorem dX10_power_35 : decode cX10_power 35 = .ok (.iload 6, 2) := by decide +kernel
theorem dX10_power_37 : decode cX10_power 37 = .ok (.iload_n 1, 1) := by decide +kernel
theorem dX10_power_38 : decode cX10_power 38 = .ok (.if_icmp .ge 21, 3) := by decide +kernel
theorem dX10_power_41 : decode cX10_power 41 = .ok (.iload 6, 2) := by decide +kernel
theorem dX10_power_43 : decode cX10_power 43 = .ok (.iconst 4, 1) := by decide +kernel
theorem dX10_power_44 : decode cX10_power 44 = .ok (.if_icmp .ge 15, 3) := by decide +kernel
theorem dX10_power_47 : decode cX10_power 47 = .ok (.lload 4, 2) := by decide +kernel
theorem dX10_power_49 : decode cX10_power 49 = .ok (.lload_n 2, 1) := by decide +kernel
theorem dX10_power_50 : decode cX10_power 50 = .ok (.lmul, 1) := by decide +kernel
theorem dX10_power_51 : decode cX10_power 51 = .ok (.lstore 4, 2) := by decide +kernel
theorem dX10_power_53 : decode cX10_power 53 = .ok (.iinc 6 1, 3) := by decide +kernel
theorem dX10_power_56 : decode cX10_power 56 = .ok (.goto (-21), 3) := by decide +kernel
theorem dX10_power_59 : decode cX10_power 59 = .ok (.lload 4, 2) := by decide +kernel
theorem dX10_power_61 : decode cX10_power 61 = .ok (.lreturn, 1) := by decide +kernel
theorem dX10_start_0 : decode cX10_start 0 = .ok (.aload_n 0, 1) := by decide +kernel
theorem dX10_start_1 : decode cX10_start 1 = .ok (.aload_n 1, 1) := by decide +kernel
theorem dX10_start_2 : decode cX10_start 2 = .ok (.putfield 37, 3) := by decide +kernel
theorem dX10_start_5 : decode cX10_start 5 = .ok (.aload_n 0, 1) := by decide +kernel
theorem dX10_start_6 : decode cX10_start 6 = .ok (.iload_n 2, 1) := by decide +kernel
theorem dX10_start_7 : decode cX10_start 7 = .ok (.iconst 4, 1) := by decide +kernel
theorem dX10_start_8 : decode cX10_start 8 = .ok (.invokestatic 50, 3) := by decide +kernel
theorem dX10_start_11 : decode cX10_start 11 = .ok (.putfield 56, 3) := by decide +kernel
theorem dX10_start_14 : decode cX10_start 14 = .ok (.aload_n 0, 1) := by decide +kernel
theorem dX10_start_15 : decode cX10_start 15 = .ok (.getfield 24, 3) := by decide +kernel
theorem dX10_start_18 : decode cX10_start 18 = .ok (.iconst 0, 1) := by decide +kernel
theorem dX10_start_19 : decode cX10_start 19 = .ok (.aaload, 1) := by decide +kernel
theorem dX10_start_20 : decode cX10_start 20 = .ok (.aload_n 0, 1) := by decide +kernel
theorem dX10_start_21 : decode cX10_start 21 = .ok (.getfield 41, 3) := by decide +kernel
theorem dX10_start_24 : decode cX10_start 24 = .ok (.invokevirtual 59, 3) := by decide +kernel
theorem dX10_start_27 : decode cX10_start 27 = .ok (.return_, 1) := by decide +kernel
theorem dX10_sceneAt_0 : decode cX10_sceneAt 0 = .ok (.aload_n 0, 1) := by decide +kernel
theorem dX10_sceneAt_1 : decode cX10_sceneAt 1 = .ok (.getfield 24, 3) := by decide +kernel
theorem dX10_sceneAt_4 : decode cX10_sceneAt 4 = .ok (.iconst 0, 1) := by decide +kernel
theorem dX10_sceneAt_5 : decode cX10_sceneAt 5 = .ok (.iload_n 1, 1) := by decide +kernel
theorem dX10_sceneAt_6 : decode cX10_sceneAt 6 = .ok (.iconst 4, 1) := by decide +kernel
theorem dX10_sceneAt_7 : decode cX10_sceneAt 7 = .ok (.invokestatic 50, 3) := by decide +kernel
theorem dX10_sceneAt_10 : decode cX10_sceneAt 10 = .ok (.invokestatic 63, 3) := by decide +kernel
theorem dX10_sceneAt_13 : decode cX10_sceneAt 13 = .ok (.aaload, 1) := by decide +kernel
theorem dX10_sceneAt_14 : decode cX10_sceneAt 14 = .ok (.areturn, 1) := by decide +kernel
theorem dX10_go_0 : decode cX10_go 0 = .ok (.aload_n 0, 1) := by decide +kernel
theorem dX10_go_1 : decode cX10_go 1 = .ok (.iload_n 1, 1) := by decide +kernel
theorem dX10_go_2 : decode cX10_go 2 = .ok (.iconst 1, 1) := by decide +kernel
theorem dX10_go_3 : decode cX10_go 3 = .ok (.iadd, 1) := by decide +kernel
theorem dX10_go_4 : decode cX10_go 4 = .ok (.invokevirtual 66, 3) := by decide +kernel
theorem dX10_go_7 : decode cX10_go 7 = .ok (.astore_n 3, 1) := by decide +kernel
theorem dX10_go_8 : decode cX10_go 8 = .ok (.aload_n 3, 1) := by decide +kernel
theorem dX10_go_9 : decode cX10_go 9 = .ok (.aload_n 0, 1) := by decide +kernel
theorem dX10_go_10 : decode cX10_go 10 = .ok (.iload_n 1, 1) := by decide +kernel
theorem dX10_go_11 : decode cX10_go 11 = .ok (.invokevirtual 66, 3) := by decide +kernel
theorem dX10_go_14 : decode cX10_go 14 = .ok (.invokevirtual 59, 3) := by decide +kernel
theorem dX10_go_17 : decode cX10_go 17 = .ok (.aload_n 3, 1) := by decide +kernel
theorem dX10_go_18 : decode cX10_go 18 = .ok (.dup, 1) := by decide +kernel
theorem dX10_go_19 : decode cX10_go 19 = .ok (.getfield 70, 3) := by decide +kernel
theorem dX10_go_22 : decode cX10_go 22 = .ok (.iconst 1, 1) := by decide +kernel
theorem dX10_go_23 : decode cX10_go 23 = .ok (.iadd, 1) := by decide +kernel
theorem dX10_go_24 : decode cX10_go 24 = .ok (.putfield 70, 3) := by decide +kernel
theorem dX10_go_27 : decode cX10_go 27 = .ok (.iconst 0, 1) := by decide +kernel
theorem dX10_go_28 : decode cX10_go 28 = .ok (.istore 4, 2) := by decide +kernel
theorem dX10_go_30 : decode cX10_go 30 = .ok (.iload 4, 2) := by decide +kernel
theorem dX10_go_32 : decode cX10_go 32 = .ok (.bipush 6, 2) := by decide +kernel
theorem dX10_go_34 : decode cX10_go 34 = .ok (.if_icmp .ge 46, 3) := by decide +kernel
theorem dX10_go_37 : decode cX10_go 37 = .ok (.iload_n 2, 1) := by decide +kernel
theorem dX10_go_38 : decode cX10_go 38 = .ok (.bipush 6, 2) := by decide +kernel
theorem dX10_go_40 : decode cX10_go 40 = .ok (.imul, 1) := by decide +kernel
theorem dX10_go_41 : decode cX10_go 41 = .ok (.iload 4, 2) := by decide +kernel
theorem dX10_go_43 : decode cX10_go 43 = .ok (.iadd, 1) := by decide +kernel
theorem dX10_go_44 : decode cX10_go 44 = .ok (.istore 5, 2) := by decide +kernel
theorem dX10_go_46 : decode cX10_go 46 = .ok (.iload 5, 2) := by decide +kernel
theorem dX10_go_48 : decode cX10_go 48 = .ok (.ifCond .lt 26, 3) := by decide +kernel
theorem dX10_go_51 : decode cX10_go 51 = .ok (.iload 5, 2) := by decide +kernel
theorem dX10_go_53 : decode cX10_go 53 = .ok (.aload_n 0, 1) := by decide +kernel
theorem dX10_go_54 : decode cX10_go 54 = .ok (.getfield 19, 3) := by decide +kernel
theorem dX10_go_57 : decode cX10_go 57 = .ok (.arraylength, 1) := by decide +kernel
theorem dX10_go_58 : decode cX10_go 58 = .ok (.if_icmp .ge 16, 3) := by decide +kernel
theorem dX10_go_61 : decode cX10_go 61 = .ok (.aload_n 3, 1) := by decide +kernel
theorem dX10_go_62 : decode cX10_go 62 = .ok (.iload 4, 2) := by decide +kernel
theorem dX10_go_64 : decode cX10_go 64 = .ok (.aload_n 0, 1) := by decide +kernel
theorem dX10_go_65 : decode cX10_go 65 = .ok (.getfield 19, 3) := by decide +kernel
theorem dX10_go_68 : decode cX10_go 68 = .ok (.iload 5, 2) := by decide +kernel
theorem dX10_go_70 : decode cX10_go 70 = .ok (.iaload, 1) := by decide +kernel
theorem dX10_go_71 : decode cX10_go 71 = .ok (.invokevirtual 73, 3) := by decide +kernel
theorem dX10_go_74 : decode cX10_go 74 = .ok (.iinc 4 1, 3) := by decide +kernel
theorem dX10_go_77 : decode cX10_go 77 = .ok (.goto (-47), 3) := by decide +kernel
theorem dX10_go_80 : decode cX10_go 80 = .ok (.return_, 1) := by decide +kernel
theorem dX10_judge_0 : decode cX10_judge 0 = .ok (.aload_n 0, 1) := by decide +kernel
theorem dX10_judge_1 : decode cX10_judge 1 = .ok (.aload_n 1, 1) := by decide +kernel
theorem dX10_judge_2 : decode cX10_judge 2 = .ok (.iload_n 2, 1) := by decide +kernel
theorem dX10_judge_3 : decode cX10_judge 3 = .ok (.invokevirtual 76, 3) := by decide +kernel
theorem dX10_judge_6 : decode cX10_judge 6 = .ok (.aload_n 0, 1) := by decide +kernel
theorem dX10_judge_7 : decode cX10_judge 7 = .ok (.iload_n 3, 1) := by decide +kernel
theorem dX10_judge_8 : decode cX10_judge 8 = .ok (.putfield 80, 3) := by decide +kernel
theorem dX10_judge_11 : decode cX10_judge 11 = .ok (.aload_n 0, 1) := by decide +kernel
theorem dX10_judge_12 : decode cX10_judge 12 = .ok (.iconst 0, 1) := by decide +kernel
theorem dX10_judge_13 : decode cX10_judge 13 = .ok (.iconst 1, 1) := by decide +kernel
theorem dX10_judge_14 : decode cX10_judge 14 = .ok (.iconst 0, 1) := by decide +kernel
theorem dX10_judge_15 : decode cX10_judge 15 = .ok (.invokevirtual 83, 3) := by decide +kernel
theorem dX10_judge_18 : decode cX10_judge 18 = .ok (.lreturn, 1) := by decide +kernel
theorem dX10_value_0 : decode cX10_value 0 = .ok (.aload_n 0, 1) := by decide +kernel
theorem dX10_value_1 : decode cX10_value 1 = .ok (.iload_n 3, 1) := by decide +kernel
theorem dX10_value_2 : decode cX10_value 2 = .ok (.invokevirtual 66, 3) := by decide +kernel
theorem dX10_value_5 : decode cX10_value 5 = .ok (.astore 4, 2) := by decide +kernel
theorem dX10_value_7 : decode cX10_value 7 = .ok (.iload_n 1, 1) := by decide +kernel
theorem dX10_value_8 : decode cX10_value 8 = .ok (.ifCond .lt 16, 3) := by decide +kernel
theorem dX10_value_11 : decode cX10_value 11 = .ok (.aload_n 0, 1) := by decide +kernel
theorem dX10_value_12 : decode cX10_value 12 = .ok (.getfield 37, 3) := by decide +kernel
theorem dX10_value_15 : decode cX10_value 15 = .ok (.iload_n 1, 1) := by decide +kernel
theorem dX10_value_16 : decode cX10_value 16 = .ok (.aload 4, 2) := by decide +kernel
theorem dX10_value_18 : decode cX10_value 18 = .ok (.invokevirtual 87, 3) := by decide +kernel
theorem dX10_value_21 : decode cX10_value 21 = .ok (.ifCond .eq 5, 3) := by decide +kernel
theorem dX10_value_24 : decode cX10_value 24 = .ok (.lconst 0, 1) := by decide +kernel
theorem dX10_value_25 : decode cX10_value 25 = .ok (.lreturn, 1) := by decide +kernel
theorem dX10_value_26 : decode cX10_value 26 = .ok (.aload_n 0, 1) := by decide +kernel
theorem dX10_value_27 : decode cX10_value 27 = .ok (.getfield 37, 3) := by decide +kernel
theorem dX10_value_30 : decode cX10_value 30 = .ok (.iload_n 1, 1) := by decide +kernel
theorem dX10_value_31 : decode cX10_value 31 = .ok (.iconst 0, 1) := by decide +kernel
theorem dX10_value_32 : decode cX10_value 32 = .ok (.invokevirtual 91, 3) := by decide +kernel
theorem dX10_value_35 : decode cX10_value 35 = .ok (.istore 5, 2) := by decide +kernel
theorem dX10_value_37 : decode cX10_value 37 = .ok (.iload 5, 2) := by decide +kernel
theorem dX10_value_39 : decode cX10_value 39 = .ok (.tableswitch 225 (-1) 7 #[49, 49, 51, 225, 84, 116, 225, 152, 183], 49) := by decide +kernel
theorem dX10_value_88 : decode cX10_value 88 = .ok (.lconst 0, 1) := by decide +kernel
theorem dX10_value_89 : decode cX10_value 89 = .ok (.lreturn, 1) := by decide +kernel
theorem dX10_value_90 : decode cX10_value 90 = .ok (.aload_n 0, 1) := by decide +kernel
theorem dX10_value_91 : decode cX10_value 91 = .ok (.getfield 37, 3) := by decide +kernel
theorem dX10_value_94 : decode cX10_value 94 = .ok (.iload_n 1, 1) := by decide +kernel
theorem dX10_value_95 : decode cX10_value 95 = .ok (.iload_n 2, 1) := by decide +kernel
theorem dX10_value_96 : decode cX10_value 96 = .ok (.invokevirtual 94, 3) := by decide +kernel
theorem dX10_value_99 : decode cX10_value 99 = .ok (.i2l, 1) := by decide +kernel
theorem dX10_value_100 : decode cX10_value 100 = .ok (.aload_n 0, 1) := by decide +kernel
theorem dX10_value_101 : decode cX10_value 101 = .ok (.getfield 80, 3) := by decide +kernel
theorem dX10_value_104 : decode cX10_value 104 = .ok (.ifCond .ne 16, 3) := by decide +kernel
theorem dX10_value_107 : decode cX10_value 107 = .ok (.aload_n 0, 1) := by decide +kernel
theorem dX10_value_108 : decode cX10_value 108 = .ok (.aload_n 0, 1) := by decide +kernel
theorem dX10_value_109 : decode cX10_value 109 = .ok (.getfield 56, 3) := by decide +kernel
theorem dX10_value_112 : decode cX10_value 112 = .ok (.iload_n 3, 1) := by decide +kernel
theorem dX10_value_113 : decode cX10_value 113 = .ok (.isub, 1) := by decide +kernel
theorem dX10_value_114 : decode cX10_value 114 = .ok (.invokevirtual 97, 3) := by decide +kernel
theorem dX10_value_117 : decode cX10_value 117 = .ok (.goto 4, 3) := by decide +kernel
theorem dX10_value_120 : decode cX10_value 120 = .ok (.lconst 1, 1) := by decide +kernel
theorem dX10_value_121 : decode cX10_value 121 = .ok (.lmul, 1) := by decide +kernel
theorem dX10_value_122 : decode cX10_value 122 = .ok (.lreturn, 1) := by decide +kernel
theorem dX10_value_123 : decode cX10_value 123 = .ok (.aload_n 0, 1) := by decide +kernel
theorem dX10_value_124 : decode cX10_value 124 = .ok (.aload_n 0, 1) := by decide +kernel
theorem dX10_value_125 : decode cX10_value 125 = .ok (.getfield 37, 3) := by decide +kernel
theorem dX10_value_128 : decode cX10_value 128 = .ok (.iload_n 1, 1) := by decide +kernel
theorem dX10_value_129 : decode cX10_value 129 = .ok (.iconst 3, 1) := by decide +kernel
theorem dX10_value_130 : decode cX10_value 130 = .ok (.invokevirtual 91, 3) := by decide +kernel
theorem dX10_value_133 : decode cX10_value 133 = .ok (.iload_n 2, 1) := by decide +kernel
theorem dX10_value_134 : decode cX10_value 134 = .ok (.iload_n 3, 1) := by decide +kernel
theorem dX10_value_135 : decode cX10_value 135 = .ok (.invokevirtual 83, 3) := by decide +kernel
theorem dX10_value_138 : decode cX10_value 138 = .ok (.aload_n 0, 1) := by decide +kernel
theorem dX10_value_139 : decode cX10_value 139 = .ok (.aload_n 0, 1) := by decide +kernel
theorem dX10_value_140 : decode cX10_value 140 = .ok (.getfield 37, 3) := by decide +kernel
theorem dX10_value_143 : decode cX10_value 143 = .ok (.iload_n 1, 1) := by decide +kernel
theorem dX10_value_144 : decode cX10_value 144 = .ok (.iconst 4, 1) := by decide +kernel
theorem dX10_value_145 : decode cX10_value 145 = .ok (.invokevirtual 91, 3) := by decide +kernel
theorem dX10_value_148 : decode cX10_value 148 = .ok (.iload_n 2, 1) := by decide +kernel
theorem dX10_value_149 : decode cX10_value 149 = .ok (.iload_n 3, 1) := by decide +kernel
theorem dX10_value_150 : decode cX10_value 150 = .ok (.invokevirtual 83, 3) := by decide +kernel
theorem dX10_value_153 : decode cX10_value 153 = .ok (.ladd, 1) := by decide +kernel
theorem dX10_value_154 : decode cX10_value 154 = .ok (.lreturn, 1) := by decide +kernel
theorem dX10_value_155 : decode cX10_value 155 = .ok (.aload_n 0, 1) := by decide +kernel
theorem dX10_value_156 : decode cX10_value 156 = .ok (.iload_n 1, 1) := by decide +kernel
theorem dX10_value_157 : decode cX10_value 157 = .ok (.aload_n 0, 1) := by decide +kernel
theorem dX10_value_158 : decode cX10_value 158 = .ok (.aload_n 0, 1) := by decide +kernel
theorem dX10_value_159 : decode cX10_value 159 = .ok (.getfield 37, 3) := by decide +kernel
theorem dX10_value_162 : decode cX10_value 162 = .ok (.iload_n 1, 1) := by decide +kernel
theorem dX10_value_163 : decode cX10_value 163 = .ok (.iconst 3, 1) := by decide +kernel
theorem dX10_value_164 : decode cX10_value 164 = .ok (.invokevirtual 91, 3) := by decide +kernel
theorem dX10_value_167 : decode cX10_value 167 = .ok (.iload_n 2, 1) := by decide +kernel
theorem dX10_value_168 : decode cX10_value 168 = .ok (.iload_n 3, 1) := by decide +kernel
theorem dX10_value_169 : decode cX10_value 169 = .ok (.invokevirtual 83, 3) := by decide +kernel
theorem dX10_value_172 : decode cX10_value 172 = .ok (.aload_n 0, 1) := by decide +kernel
theorem dX10_value_173 : decode cX10_value 173 = .ok (.aload_n 0, 1) := by decide +kernel
theorem dX10_value_174 : decode cX10_value 174 = .ok (.getfield 37, 3) := by decide +kernel
theorem dX10_value_177 : decode cX10_value 177 = .ok (.iload_n 1, 1) := by decide +kernel
theorem dX10_value_178 : decode cX10_value 178 = .ok (.iconst 4, 1) := by decide +kernel
theorem dX10_value_179 : decode cX10_value 179 = .ok (.invokevirtual 91, 3) := by decide +kernel
theorem dX10_value_182 : decode cX10_value 182 = .ok (.iload_n 2, 1) := by decide +kernel
theorem dX10_value_183 : decode cX10_value 183 = .ok (.iload_n 3, 1) := by decide +kernel
theorem dX10_value_184 : decode cX10_value 184 = .ok (.invokevirtual 83, 3) := by decide +kernel
theorem dX10_value_187 : decode cX10_value 187 = .ok (.invokevirtual 100, 3) := by decide +kernel
theorem dX10_value_190 : decode cX10_value 190 = .ok (.lreturn, 1) := by decide +kernel
theorem dX10_value_191 : decode cX10_value 191 = .ok (.aload_n 0, 1) := by decide +kernel
theorem dX10_value_192 : decode cX10_value 192 = .ok (.getfield 37, 3) := by decide +kernel
theorem dX10_value_195 : decode cX10_value 195 = .ok (.iload_n 1, 1) := by decide +kernel
theorem dX10_value_196 : decode cX10_value 196 = .ok (.aload 4, 2) := by decide +kernel
theorem dX10_value_198 : decode cX10_value 198 = .ok (.invokevirtual 104, 3) := by decide +kernel
theorem dX10_value_201 : decode cX10_value 201 = .ok (.ifCond .eq 13, 3) := by decide +kernel
theorem dX10_value_204 : decode cX10_value 204 = .ok (.aload_n 0, 1) := by decide +kernel
theorem dX10_value_205 : decode cX10_value 205 = .ok (.iload_n 1, 1) := by decide +kernel
theorem dX10_value_206 : decode cX10_value 206 = .ok (.iload_n 2, 1) := by decide +kernel
theorem dX10_value_207 : decode cX10_value 207 = .ok (.iload_n 3, 1) := by decide +kernel
theorem dX10_value_208 : decode cX10_value 208 = .ok (.invokevirtual 107, 3) := by decide +kernel
theorem dX10_value_211 : decode cX10_value 211 = .ok (.goto 10, 3) := by decide +kernel
theorem dX10_value_214 : decode cX10_value 214 = .ok (.aload_n 0, 1) := by decide +kernel
theorem dX10_value_215 : decode cX10_value 215 = .ok (.iload_n 1, 1) := by decide +kernel
theorem dX10_value_216 : decode cX10_value 216 = .ok (.iload_n 2, 1) := by decide +kernel
theorem dX10_value_217 : decode cX10_value 217 = .ok (.iload_n 3, 1) := by decide +kernel
theorem dX10_value_218 : decode cX10_value 218 = .ok (.invokevirtual 110, 3) := by decide +kernel
theorem dX10_value_221 : decode cX10_value 221 = .ok (.lreturn, 1) := by decide +kernel
theorem dX10_value_222 : decode cX10_value 222 = .ok (.aload_n 0, 1) := by decide +kernel
theorem dX10_value_223 : decode cX10_value 223 = .ok (.iload_n 1, 1) := by decide +kernel
theorem dX10_value_224 : decode cX10_value 224 = .ok (.iload_n 2, 1) := by decide +kernel
theorem dX10_value_225 : decode cX10_value 225 = .ok (.iload_n 3, 1) := by decide +kernel
theorem dX10_value_226 : decode cX10_value 226 = .ok (.invokevirtual 110, 3) := by decide +kernel
theorem dX10_value_229 : decode cX10_value 229 = .ok (.lstore 6, 2) := by decide +kernel
theorem dX10_value_231 : decode cX10_value 231 = .ok (.aload_n 0, 1) := by decide +kernel
theorem dX10_value_232 : decode cX10_value 232 = .ok (.getfield 37, 3) := by decide +kernel
theorem dX10_value_235 : decode cX10_value 235 = .ok (.iload_n 1, 1) := by decide +kernel
theorem dX10_value_236 : decode cX10_value 236 = .ok (.aload 4, 2) := by decide +kernel
theorem dX10_value_238 : decode cX10_value 238 = .ok (.invokevirtual 104, 3) := by decide +kernel
theorem dX10_value_241 : decode cX10_value 241 = .ok (.ifCond .eq 20, 3) := by decide +kernel
theorem dX10_value_244 : decode cX10_value 244 = .ok (.aload_n 0, 1) := by decide +kernel
theorem dX10_value_245 : decode cX10_value 245 = .ok (.iload_n 1, 1) := by decide +kernel
theorem dX10_value_246 : decode cX10_value 246 = .ok (.lload 6, 2) := by decide +kernel
theorem dX10_value_248 : decode cX10_value 248 = .ok (.aload_n 0, 1) := by decide +kernel
theorem dX10_value_249 : decode cX10_value 249 = .ok (.iload_n 1, 1) := by decide +kernel
theorem dX10_value_250 : decode cX10_value 250 = .ok (.iload_n 2, 1) := by decide +kernel
theorem dX10_value_251 : decode cX10_value 251 = .ok (.iload_n 3, 1) := by decide +kernel
theorem dX10_value_252 : decode cX10_value 252 = .ok (.invokevirtual 107, 3) := by decide +kernel
theorem dX10_value_255 : decode cX10_value 255 = .ok (.invokevirtual 100, 3) := by decide +kernel
theorem dX10_value_258 : decode cX10_value 258 = .ok (.goto 5, 3) := by decide +kernel
theorem dX10_value_261 : decode cX10_value 261 = .ok (.lload 6, 2) := by decide +kernel
theorem dX10_value_263 : decode cX10_value 263 = .ok (.lreturn, 1) := by decide +kernel
theorem dX10_value_264 : decode cX10_value 264 = .ok (.aload_n 0, 1) := by decide +kernel
theorem dX10_value_265 : decode cX10_value 265 = .ok (.iload_n 1, 1) := by decide +kernel
theorem dX10_value_266 : decode cX10_value 266 = .ok (.iload_n 2, 1) := by decide +kernel
theorem dX10_value_267 : decode cX10_value 267 = .ok (.iload_n 3, 1) := by decide +kernel
theorem dX10_value_268 : decode cX10_value 268 = .ok (.invokevirtual 107, 3) := by decide +kernel
theorem dX10_value_271 : decode cX10_value 271 = .ok (.lreturn, 1) := by decide +kernel
theorem dX10_deedValue_0 : decode cX10_deedValue 0 = .ok (.aload_n 0, 1) := by decide +kernel
theorem dX10_deedValue_1 : decode cX10_deedValue 1 = .ok (.iload_n 3, 1) := by decide +kernel
theorem dX10_deedValue_2 : decode cX10_deedValue 2 = .ok (.invokevirtual 66, 3) := by decide +kernel
theorem dX10_deedValue_5 : decode cX10_deedValue 5 = .ok (.astore 4, 2) := by decide +kernel
theorem dX10_deedValue_7 : decode cX10_deedValue 7 = .ok (.aload_n 0, 1) := by decide +kernel
theorem dX10_deedValue_8 : decode cX10_deedValue 8 = .ok (.aload_n 0, 1) := by decide +kernel
theorem dX10_deedValue_9 : decode cX10_deedValue 9 = .ok (.getfield 37, 3) := by decide +kernel
theorem dX10_deedValue_12 : decode cX10_deedValue 12 = .ok (.iload_n 1, 1) := by decide +kernel
theorem dX10_deedValue_13 : decode cX10_deedValue 13 = .ok (.aload 4, 2) := by decide +kernel
theorem dX10_deedValue_15 : decode cX10_deedValue 15 = .ok (.invokevirtual 113, 3) := by decide +kernel
theorem dX10_deedValue_18 : decode cX10_deedValue 18 = .ok (.aload_n 0, 1) := by decide +kernel
theorem dX10_deedValue_19 : decode cX10_deedValue 19 = .ok (.getfield 37, 3) := by decide +kernel
theorem dX10_deedValue_22 : decode cX10_deedValue 22 = .ok (.iload_n 1, 1) := by decide +kernel
theorem dX10_deedValue_23 : decode cX10_deedValue 23 = .ok (.iload_n 2, 1) := by decide +kernel
theorem dX10_deedValue_24 : decode cX10_deedValue 24 = .ok (.aload 4, 2) := by decide +kernel
theorem dX10_deedValue_26 : decode cX10_deedValue 26 = .ok (.invokevirtual 117, 3) := by decide +kernel
theorem dX10_deedValue_29 : decode cX10_deedValue 29 = .ok (.iload_n 3, 1) := by decide +kernel
theorem dX10_deedValue_30 : decode cX10_deedValue 30 = .ok (.invokevirtual 83, 3) := by decide +kernel
theorem dX10_deedValue_33 : decode cX10_deedValue 33 = .ok (.lreturn, 1) := by decide +kernel
theorem dX10_better_0 : decode cX10_better 0 = .ok (.aload_n 0, 1) := by decide +kernel
theorem dX10_better_1 : decode cX10_better 1 = .ok (.getfield 37, 3) := by decide +kernel
theorem dX10_better_4 : decode cX10_better 4 = .ok (.iload_n 1, 1) := by decide +kernel
theorem dX10_better_5 : decode cX10_better 5 = .ok (.bipush 10, 2) := by decide +kernel
theorem dX10_better_7 : decode cX10_better 7 = .ok (.invokevirtual 91, 3) := by decide +kernel
theorem dX10_better_10 : decode cX10_better 10 = .ok (.ifCond .ne 12, 3) := by decide +kernel
theorem dX10_better_13 : decode cX10_better 13 = .ok (.lload_n 2, 1) := by decide +kernel
theorem dX10_better_14 : decode cX10_better 14 = .ok (.lload 4, 2) := by decide +kernel
theorem dX10_better_16 : decode cX10_better 16 = .ok (.invokestatic 121, 3) := by decide +kernel
theorem dX10_better_19 : decode cX10_better 19 = .ok (.goto 9, 3) := by decide +kernel
theorem dX10_better_22 : decode cX10_better 22 = .ok (.lload_n 2, 1) := by decide +kernel
theorem dX10_better_23 : decode cX10_better 23 = .ok (.lload 4, 2) := by decide +kernel
theorem dX10_better_25 : decode cX10_better 25 = .ok (.invokestatic 124, 3) := by decide +kernel
theorem dX10_better_28 : decode cX10_better 28 = .ok (.lreturn, 1) := by decide +kernel
theorem dX10_waiting_0 : decode cX10_waiting 0 = .ok (.iload_n 3, 1) := by decide +kernel
theorem dX10_waiting_1 : decode cX10_waiting 1 = .ok (.aload_n 0, 1) := by decide +kernel
theorem dX10_waiting_2 : decode cX10_waiting 2 = .ok (.getfield 56, 3) := by decide +kernel
theorem dX10_waiting_5 : decode cX10_waiting 5 = .ok (.if_icmp .lt 5, 3) := by decide +kernel
theorem dX10_waiting_8 : decode cX10_waiting 8 = .ok (.lconst 0, 1) := by decide +kernel
theorem dX10_waiting_9 : decode cX10_waiting 9 = .ok (.lreturn, 1) := by decide +kernel
theorem dX10_waiting_10 : decode cX10_waiting 10 = .ok (.lconst 0, 1) := by decide +kernel
theorem dX10_waiting_11 : decode cX10_waiting 11 = .ok (.lstore 4, 2) := by decide +kernel
theorem dX10_waiting_13 : decode cX10_waiting 13 = .ok (.iconst 0, 1) := by decide +kernel
theorem dX10_waiting_14 : decode cX10_waiting 14 = .ok (.istore 6, 2) := by decide +kernel
theorem dX10_waiting_16 : decode cX10_waiting 16 = .ok (.iload 6, 2) := by decide +kernel
theorem dX10_waiting_18 : decode cX10_waiting 18 = .ok (.aload_n 0, 1) := by decide +kernel
theorem dX10_waiting_19 : decode cX10_waiting 19 = .ok (.getfield 9, 3) := by decide +kernel
theorem dX10_waiting_22 : decode cX10_waiting 22 = .ok (.if_icmp .ge 90, 3) := by decide +kernel
theorem dX10_waiting_25 : decode cX10_waiting 25 = .ok (.aload_n 0, 1) := by decide +kernel
theorem dX10_waiting_26 : decode cX10_waiting 26 = .ok (.iload_n 3, 1) := by decide +kernel
theorem dX10_waiting_27 : decode cX10_waiting 27 = .ok (.iload 6, 2) := by decide +kernel
theorem dX10_waiting_29 : decode cX10_waiting 29 = .ok (.invokevirtual 126, 3) := by decide +kernel
theorem dX10_waiting_32 : decode cX10_waiting 32 = .ok (.aload_n 0, 1) := by decide +kernel
theorem dX10_waiting_33 : decode cX10_waiting 33 = .ok (.iload_n 1, 1) := by decide +kernel
theorem dX10_waiting_34 : decode cX10_waiting 34 = .ok (.iload_n 2, 1) := by decide +kernel
theorem dX10_waiting_35 : decode cX10_waiting 35 = .ok (.iload_n 3, 1) := by decide +kernel
theorem dX10_waiting_36 : decode cX10_waiting 36 = .ok (.iconst 1, 1) := by decide +kernel
theorem dX10_waiting_37 : decode cX10_waiting 37 = .ok (.iadd, 1) := by decide +kernel
theorem dX10_waiting_38 : decode cX10_waiting 38 = .ok (.invokevirtual 83, 3) := by decide +kernel
theorem dX10_waiting_41 : decode cX10_waiting 41 = .ok (.lstore 7, 2) := by decide +kernel
theorem dX10_waiting_43 : decode cX10_waiting 43 = .ok (.aload_n 0, 1) := by decide +kernel
theorem dX10_waiting_44 : decode cX10_waiting 44 = .ok (.getfield 80, 3) := by decide +kernel
theorem dX10_waiting_47 : decode cX10_waiting 47 = .ok (.ifCond .ne 20, 3) := by decide +kernel
theorem dX10_waiting_50 : decode cX10_waiting 50 = .ok (.lload 4, 2) := by decide +kernel
theorem dX10_waiting_52 : decode cX10_waiting 52 = .ok (.aload_n 0, 1) := by decide +kernel
theorem dX10_waiting_53 : decode cX10_waiting 53 = .ok (.iload 6, 2) := by decide +kernel
theorem dX10_waiting_55 : decode cX10_waiting 55 = .ok (.invokevirtual 46, 3) := by decide +kernel
theorem dX10_waiting_58 : decode cX10_waiting 58 = .ok (.lload 7, 2) := by decide +kernel
theorem dX10_waiting_60 : decode cX10_waiting 60 = .ok (.lmul, 1) := by decide +kernel
theorem dX10_waiting_61 : decode cX10_waiting 61 = .ok (.ladd, 1) := by decide +kernel
theorem dX10_waiting_62 : decode cX10_waiting 62 = .ok (.lstore 4, 2) := by decide +kernel
theorem dX10_waiting_64 : decode cX10_waiting 64 = .ok (.goto 42, 3) := by decide +kernel
theorem dX10_waiting_67 : decode cX10_waiting 67 = .ok (.iload 6, 2) := by decide +kernel
theorem dX10_waiting_69 : decode cX10_waiting 69 = .ok (.ifCond .ne 10, 3) := by decide +kernel
theorem dX10_waiting_72 : decode cX10_waiting 72 = .ok (.lload 7, 2) := by decide +kernel
theorem dX10_waiting_74 : decode cX10_waiting 74 = .ok (.lstore 4, 2) := by decide +kernel
theorem dX10_waiting_76 : decode cX10_waiting 76 = .ok (.goto 30, 3) := by decide +kernel
theorem dX10_waiting_79 : decode cX10_waiting 79 = .ok (.aload_n 0, 1) := by decide +kernel
theorem dX10_waiting_80 : decode cX10_waiting 80 = .ok (.getfield 80, 3) := by decide +kernel
theorem dX10_waiting_83 : decode cX10_waiting 83 = .ok (.iconst 1, 1) := by decide +kernel
theorem dX10_waiting_84 : decode cX10_waiting 84 = .ok (.if_icmp .ne 13, 3) := by decide +kernel
theorem dX10_waiting_87 : decode cX10_waiting 87 = .ok (.lload 4, 2) := by decide +kernel
theorem dX10_waiting_89 : decode cX10_waiting 89 = .ok (.lload 7, 2) := by decide +kernel
theorem dX10_waiting_91 : decode cX10_waiting 91 = .ok (.invokestatic 124, 3) := by decide +kernel
theorem dX10_waiting_94 : decode cX10_waiting 94 = .ok (.goto 10, 3) := by decide +kernel
theorem dX10_waiting_97 : decode cX10_waiting 97 = .ok (.lload 4, 2) := by decide +kernel
theorem dX10_waiting_99 : decode cX10_waiting 99 = .ok (.lload 7, 2) := by decide +kernel
theorem dX10_waiting_101 : decode cX10_waiting 101 = .ok (.invokestatic 121, 3) := by decide +kernel
theorem dX10_waiting_104 : decode cX10_waiting 104 = .ok (.lstore 4, 2) := by decide +kernel
theorem dX10_waiting_106 : decode cX10_waiting 106 = .ok (.iinc 6 1, 3) := by decide +kernel
theorem dX10_waiting_109 : decode cX10_waiting 109 = .ok (.goto (-93), 3) := by decide +kernel
theorem dX10_waiting_112 : decode cX10_waiting 112 = .ok (.lload 4, 2) := by decide +kernel
theorem dX10_waiting_114 : decode cX10_waiting 114 = .ok (.lreturn, 1) := by decide +kernel
theorem dX10_finds_0 : decode cX10_finds 0 = .ok (.aload_n 0, 1) := by decide +kernel
theorem dX10_finds_1 : decode cX10_finds 1 = .ok (.aload_n 1, 1) := by decide +kernel
theorem dX10_finds_2 : decode cX10_finds 2 = .ok (.iload_n 2, 1) := by decide +kernel
theorem dX10_finds_3 : decode cX10_finds 3 = .ok (.invokevirtual 76, 3) := by decide +kernel
theorem dX10_finds_6 : decode cX10_finds 6 = .ok (.aload_n 0, 1) := by decide +kernel
theorem dX10_finds_7 : decode cX10_finds 7 = .ok (.iconst 0, 1) := by decide +kernel
theorem dX10_finds_8 : decode cX10_finds 8 = .ok (.iload_n 3, 1) := by decide +kernel
theorem dX10_finds_9 : decode cX10_finds 9 = .ok (.iconst 0, 1) := by decide +kernel
theorem dX10_finds_10 : decode cX10_finds 10 = .ok (.invokevirtual 129, 3) := by decide +kernel
theorem dX10_finds_13 : decode cX10_finds 13 = .ok (.ireturn, 1) := by decide +kernel
theorem dX10_reaches_0 : decode cX10_reaches 0 = .ok (.aload_n 0, 1) := by decide +kernel
theorem dX10_reaches_1 : decode cX10_reaches 1 = .ok (.iload_n 3, 1) := by decide +kernel
theorem dX10_reaches_2 : decode cX10_reaches 2 = .ok (.invokevirtual 66, 3) := by decide +kernel
theorem dX10_reaches_5 : decode cX10_reaches 5 = .ok (.astore 4, 2) := by decide +kernel
theorem dX10_reaches_7 : decode cX10_reaches 7 = .ok (.iload_n 1, 1) := by decide +kernel
theorem dX10_reaches_8 : decode cX10_reaches 8 = .ok (.ifCond .lt 16, 3) := by decide +kernel
theorem dX10_reaches_11 : decode cX10_reaches 11 = .ok (.aload_n 0, 1) := by decide +kernel
theorem dX10_reaches_12 : decode cX10_reaches 12 = .ok (.getfield 37, 3) := by decide +kernel
theorem dX10_reaches_15 : decode cX10_reaches 15 = .ok (.iload_n 1, 1) := by decide +kernel
theorem dX10_reaches_16 : decode cX10_reaches 16 = .ok (.aload 4, 2) := by decide +kernel
theorem dX10_reaches_18 : decode cX10_reaches 18 = .ok (.invokevirtual 87, 3) := by decide +kernel
theorem dX10_reaches_21 : decode cX10_reaches 21 = .ok (.ifCond .eq 5, 3) := by decide +kernel
theorem dX10_reaches_24 : decode cX10_reaches 24 = .ok (.iconst 0, 1) := by decide +kernel
theorem dX10_reaches_25 : decode cX10_reaches 25 = .ok (.ireturn, 1) := by decide +kernel
theorem dX10_reaches_26 : decode cX10_reaches 26 = .ok (.iload_n 1, 1) := by decide +kernel
theorem dX10_reaches_27 : decode cX10_reaches 27 = .ok (.iload_n 2, 1) := by decide +kernel
theorem dX10_reaches_28 : decode cX10_reaches 28 = .ok (.if_icmp .ne 5, 3) := by decide +kernel
theorem dX10_reaches_31 : decode cX10_reaches 31 = .ok (.iconst 1, 1) := by decide +kernel
theorem dX10_reaches_32 : decode cX10_reaches 32 = .ok (.ireturn, 1) := by decide +kernel
theorem dX10_reaches_33 : decode cX10_reaches 33 = .ok (.aload_n 0, 1) := by decide +kernel
theorem dX10_reaches_34 : decode cX10_reaches 34 = .ok (.getfield 37, 3) := by decide +kernel
theorem dX10_reaches_37 : decode cX10_reaches 37 = .ok (.iload_n 1, 1) := by decide +kernel
theorem dX10_reaches_38 : decode cX10_reaches 38 = .ok (.iconst 4, 1) := by decide +kernel
theorem dX10_reaches_39 : decode cX10_reaches 39 = .ok (.invokevirtual 91, 3) := by decide +kernel
theorem dX10_reaches_42 : decode cX10_reaches 42 = .ok (.istore 5, 2) := by decide +kernel
theorem dX10_reaches_44 : decode cX10_reaches 44 = .ok (.iload 5, 2) := by decide +kernel
theorem dX10_reaches_46 : decode cX10_reaches 46 = .ok (.iconst (-1), 1) := by decide +kernel
theorem dX10_reaches_47 : decode cX10_reaches 47 = .ok (.if_icmp .eq 14, 3) := by decide +kernel
theorem dX10_reaches_50 : decode cX10_reaches 50 = .ok (.iload_n 2, 1) := by decide +kernel
theorem dX10_reaches_51 : decode cX10_reaches 51 = .ok (.iload 5, 2) := by decide +kernel
theorem dX10_reaches_53 : decode cX10_reaches 53 = .ok (.if_icmp .lt 8, 3) := by decide +kernel
theorem dX10_reaches_56 : decode cX10_reaches 56 = .ok (.iload 5, 2) := by decide +kernel
theorem dX10_reaches_58 : decode cX10_reaches 58 = .ok (.goto 12, 3) := by decide +kernel
theorem dX10_reaches_61 : decode cX10_reaches 61 = .ok (.aload_n 0, 1) := by decide +kernel
theorem dX10_reaches_62 : decode cX10_reaches 62 = .ok (.getfield 37, 3) := by decide +kernel
theorem dX10_reaches_65 : decode cX10_reaches 65 = .ok (.iload_n 1, 1) := by decide +kernel
theorem dX10_reaches_66 : decode cX10_reaches 66 = .ok (.iconst 3, 1) := by decide +kernel
theorem dX10_reaches_67 : decode cX10_reaches 67 = .ok (.invokevirtual 91, 3) := by decide +kernel
theorem dX10_reaches_70 : decode cX10_reaches 70 = .ok (.istore 6, 2) := by decide +kernel
theorem dX10_reaches_72 : decode cX10_reaches 72 = .ok (.aload_n 0, 1) := by decide +kernel
theorem dX10_reaches_73 : decode cX10_reaches 73 = .ok (.getfield 37, 3) := by decide +kernel
theorem dX10_reaches_76 : decode cX10_reaches 76 = .ok (.iload_n 1, 1) := by decide +kernel
theorem dX10_reaches_77 : decode cX10_reaches 77 = .ok (.iconst 0, 1) := by decide +kernel
theorem dX10_reaches_78 : decode cX10_reaches 78 = .ok (.invokevirtual 91, 3) := by decide +kernel
theorem dX10_reaches_81 : decode cX10_reaches 81 = .ok (.tableswitch 131 5 7 #[27, 59, 91], 27) := by decide +kernel
theorem dX10_reaches_108 : decode cX10_reaches 108 = .ok (.aload_n 0, 1) := by decide +kernel
theorem dX10_reaches_109 : decode cX10_reaches 109 = .ok (.getfield 37, 3) := by decide +kernel
theorem dX10_reaches_112 : decode cX10_reaches 112 = .ok (.iload_n 1, 1) := by decide +kernel
theorem dX10_reaches_113 : decode cX10_reaches 113 = .ok (.aload 4, 2) := by decide +kernel
theorem dX10_reaches_115 : decode cX10_reaches 115 = .ok (.invokevirtual 113, 3) := by decide +kernel
theorem dX10_reaches_118 : decode cX10_reaches 118 = .ok (.iload 6, 2) := by decide +kernel
theorem dX10_reaches_120 : decode cX10_reaches 120 = .ok (.if_icmp .ne 18, 3) := by decide +kernel
theorem dX10_reaches_123 : decode cX10_reaches 123 = .ok (.aload_n 0, 1) := by decide +kernel
theorem dX10_reaches_124 : decode cX10_reaches 124 = .ok (.iload 6, 2) := by decide +kernel
theorem dX10_reaches_126 : decode cX10_reaches 126 = .ok (.iload_n 2, 1) := by decide +kernel
theorem dX10_reaches_127 : decode cX10_reaches 127 = .ok (.iload_n 3, 1) := by decide +kernel
theorem dX10_reaches_128 : decode cX10_reaches 128 = .ok (.invokevirtual 129, 3) := by decide +kernel
theorem dX10_reaches_131 : decode cX10_reaches 131 = .ok (.ifCond .eq 7, 3) := by decide +kernel
theorem dX10_reaches_134 : decode cX10_reaches 134 = .ok (.iconst 1, 1) := by decide +kernel
theorem dX10_reaches_135 : decode cX10_reaches 135 = .ok (.goto 4, 3) := by decide +kernel
theorem dX10_reaches_138 : decode cX10_reaches 138 = .ok (.iconst 0, 1) := by decide +kernel
theorem dX10_reaches_139 : decode cX10_reaches 139 = .ok (.ireturn, 1) := by decide +kernel
theorem dX10_reaches_140 : decode cX10_reaches 140 = .ok (.aload_n 0, 1) := by decide +kernel
theorem dX10_reaches_141 : decode cX10_reaches 141 = .ok (.getfield 37, 3) := by decide +kernel
theorem dX10_reaches_144 : decode cX10_reaches 144 = .ok (.iload_n 1, 1) := by decide +kernel
theorem dX10_reaches_145 : decode cX10_reaches 145 = .ok (.aload 4, 2) := by decide +kernel
theorem dX10_reaches_147 : decode cX10_reaches 147 = .ok (.invokevirtual 104, 3) := by decide +kernel
theorem dX10_reaches_150 : decode cX10_reaches 150 = .ok (.ifCond .eq 14, 3) := by decide +kernel
theorem dX10_reaches_153 : decode cX10_reaches 153 = .ok (.aload_n 0, 1) := by decide +kernel
theorem dX10_reaches_154 : decode cX10_reaches 154 = .ok (.iload 6, 2) := by decide +kernel
theorem dX10_reaches_156 : decode cX10_reaches 156 = .ok (.iload_n 2, 1) := by decide +kernel
theorem dX10_reaches_157 : decode cX10_reaches 157 = .ok (.iload_n 3, 1) := by decide +kernel
theorem dX10_reaches_158 : decode cX10_reaches 158 = .ok (.invokevirtual 129, 3) := by decide +kernel
theorem dX10_reaches_161 : decode cX10_reaches 161 = .ok (.goto 10, 3) := by decide +kernel
theorem dX10_reaches_164 : decode cX10_reaches 164 = .ok (.aload_n 0, 1) := by decide +kernel
theorem dX10_reaches_165 : decode cX10_reaches 165 = .ok (.iload_n 1, 1) := by decide +kernel
theorem dX10_reaches_166 : decode cX10_reaches 166 = .ok (.iload_n 2, 1) := by decide +kernel
theorem dX10_reaches_167 : decode cX10_reaches 167 = .ok (.iload_n 3, 1) := by decide +kernel
theorem dX10_reaches_168 : decode cX10_reaches 168 = .ok (.invokevirtual 133, 3) := by decide +kernel
theorem dX10_reaches_171 : decode cX10_reaches 171 = .ok (.ireturn, 1) := by decide +kernel
theorem dX10_reaches_172 : decode cX10_reaches 172 = .ok (.aload_n 0, 1) := by decide +kernel
theorem dX10_reaches_173 : decode cX10_reaches 173 = .ok (.getfield 37, 3) := by decide +kernel
theorem dX10_reaches_176 : decode cX10_reaches 176 = .ok (.iload_n 1, 1) := by decide +kernel
theorem dX10_reaches_177 : decode cX10_reaches 177 = .ok (.aload 4, 2) := by decide +kernel
theorem dX10_reaches_179 : decode cX10_reaches 179 = .ok (.invokevirtual 104, 3) := by decide +kernel
theorem dX10_reaches_182 : decode cX10_reaches 182 = .ok (.ifCond .eq 14, 3) := by decide +kernel
theorem dX10_reaches_185 : decode cX10_reaches 185 = .ok (.aload_n 0, 1) := by decide +kernel
theorem dX10_reaches_186 : decode cX10_reaches 186 = .ok (.iload 6, 2) := by decide +kernel
theorem dX10_reaches_188 : decode cX10_reaches 188 = .ok (.iload_n 2, 1) := by decide +kernel
theorem dX10_reaches_189 : decode cX10_reaches 189 = .ok (.iload_n 3, 1) := by decide +kernel
theorem dX10_reaches_190 : decode cX10_reaches 190 = .ok (.invokevirtual 129, 3) := by decide +kernel
theorem dX10_reaches_193 : decode cX10_reaches 193 = .ok (.ifCond .ne 13, 3) := by decide +kernel
theorem dX10_reaches_196 : decode cX10_reaches 196 = .ok (.aload_n 0, 1) := by decide +kernel
theorem dX10_reaches_197 : decode cX10_reaches 197 = .ok (.iload_n 1, 1) := by decide +kernel
theorem dX10_reaches_198 : decode cX10_reaches 198 = .ok (.iload_n 2, 1) := by decide +kernel
theorem dX10_reaches_199 : decode cX10_reaches 199 = .ok (.iload_n 3, 1) := by decide +kernel
theorem dX10_reaches_200 : decode cX10_reaches 200 = .ok (.invokevirtual 133, 3) := by decide +kernel
theorem dX10_reaches_203 : decode cX10_reaches 203 = .ok (.ifCond .eq 7, 3) := by decide +kernel
theorem dX10_reaches_206 : decode cX10_reaches 206 = .ok (.iconst 1, 1) := by decide +kernel
theorem dX10_reaches_207 : decode cX10_reaches 207 = .ok (.goto 4, 3) := by decide +kernel
theorem dX10_reaches_210 : decode cX10_reaches 210 = .ok (.iconst 0, 1) := by decide +kernel
theorem dX10_reaches_211 : decode cX10_reaches 211 = .ok (.ireturn, 1) := by decide +kernel
theorem dX10_reaches_212 : decode cX10_reaches 212 = .ok (.aload_n 0, 1) := by decide +kernel
theorem dX10_reaches_213 : decode cX10_reaches 213 = .ok (.iload 6, 2) := by decide +kernel
theorem dX10_reaches_215 : decode cX10_reaches 215 = .ok (.iload_n 2, 1) := by decide +kernel
theorem dX10_reaches_216 : decode cX10_reaches 216 = .ok (.iload_n 3, 1) := by decide +kernel
theorem dX10_reaches_217 : decode cX10_reaches 217 = .ok (.invokevirtual 129, 3) := by decide +kernel
theorem dX10_reaches_220 : decode cX10_reaches 220 = .ok (.ireturn, 1) := by decide +kernel
theorem dX10_reachesLater_0 : decode cX10_reachesLater 0 = .ok (.iload_n 3, 1) := by decide +kernel
theorem dX10_reachesLater_1 : decode cX10_reachesLater 1 = .ok (.aload_n 0, 1) := by decide +kernel
theorem dX10_reachesLater_2 : decode cX10_reachesLater 2 = .ok (.getfield 56, 3) := by decide +kernel
theorem dX10_reachesLater_5 : decode cX10_reachesLater 5 = .ok (.if_icmp .lt 5, 3) := by decide +kernel
theorem dX10_reachesLater_8 : decode cX10_reachesLater 8 = .ok (.iconst 0, 1) := by decide +kernel
theorem dX10_reachesLater_9 : decode cX10_reachesLater 9 = .ok (.ireturn, 1) := by decide +kernel
theorem dX10_reachesLater_10 : decode cX10_reachesLater 10 = .ok (.iconst 0, 1) := by decide +kernel
theorem dX10_reachesLater_11 : decode cX10_reachesLater 11 = .ok (.istore 4, 2) := by decide +kernel
theorem dX10_reachesLater_13 : decode cX10_reachesLater 13 = .ok (.iload 4, 2) := by decide +kernel
theorem dX10_reachesLater_15 : decode cX10_reachesLater 15 = .ok (.aload_n 0, 1) := by decide +kernel
theorem dX10_reachesLater_16 : decode cX10_reachesLater 16 = .ok (.getfield 9, 3) := by decide +kernel
theorem dX10_reachesLater_19 : decode cX10_reachesLater 19 = .ok (.if_icmp .ge 30, 3) := by decide +kernel
theorem dX10_reachesLater_22 : decode cX10_reachesLater 22 = .ok (.aload_n 0, 1) := by decide +kernel
theorem dX10_reachesLater_23 : decode cX10_reachesLater 23 = .ok (.iload_n 3, 1) := by decide +kernel
theorem dX10_reachesLater_24 : decode cX10_reachesLater 24 = .ok (.iload 4, 2) := by decide +kernel
theorem dX10_reachesLater_26 : decode cX10_reachesLater 26 = .ok (.invokevirtual 126, 3) := by decide +kernel
theorem dX10_reachesLater_29 : decode cX10_reachesLater 29 = .ok (.aload_n 0, 1) := by decide +kernel
theorem dX10_reachesLater_30 : decode cX10_reachesLater 30 = .ok (.iload_n 1, 1) := by decide +kernel
theorem dX10_reachesLater_31 : decode cX10_reachesLater 31 = .ok (.iload_n 2, 1) := by decide +kernel
theorem dX10_reachesLater_32 : decode cX10_reachesLater 32 = .ok (.iload_n 3, 1) := by decide +kernel
theorem dX10_reachesLater_33 : decode cX10_reachesLater 33 = .ok (.iconst 1, 1) := by decide +kernel
theorem dX10_reachesLater_34 : decode cX10_reachesLater 34 = .ok (.iadd, 1) := by decide +kernel
theorem dX10_reachesLater_35 : decode cX10_reachesLater 35 = .ok (.invokevirtual 129, 3) := by decide +kernel
theorem dX10_reachesLater_38 : decode cX10_reachesLater 38 = .ok (.ifCond .eq 5, 3) := by decide +kernel
theorem dX10_reachesLater_41 : decode cX10_reachesLater 41 = .ok (.iconst 1, 1) := by decide +kernel
theorem dX10_reachesLater_42 : decode cX10_reachesLater 42 = .ok (.ireturn, 1) := by decide +kernel
theorem dX10_reachesLater_43 : decode cX10_reachesLater 43 = .ok (.iinc 4 1, 3) := by decide +kernel
theorem dX10_reachesLater_46 : decode cX10_reachesLater 46 = .ok (.goto (-33), 3) := by decide +kernel
theorem dX10_reachesLater_49 : decode cX10_reachesLater 49 = .ok (.iconst 0, 1) := by decide +kernel
theorem dX10_reachesLater_50 : decode cX10_reachesLater 50 = .ok (.ireturn, 1) := by decide +kernel
theorem dX10_firstParting_0 : decode cX10_firstParting 0 = .ok (.iload_n 3, 1) := by decide +kernel
theorem dX10_firstParting_1 : decode cX10_firstParting 1 = .ok (.aload_n 0, 1) := by decide +kernel
theorem dX10_firstParting_2 : decode cX10_firstParting 2 = .ok (.getfield 56, 3) := by decide +kernel
theorem dX10_firstParting_5 : decode cX10_firstParting 5 = .ok (.if_icmp .lt 20, 3) := by decide +kernel
theorem dX10_firstParting_8 : decode cX10_firstParting 8 = .ok (.aload_n 0, 1) := by decide +kernel
theorem dX10_firstParting_9 : decode cX10_firstParting 9 = .ok (.aload_n 1, 1) := by decide +kernel
theorem dX10_firstParting_10 : decode cX10_firstParting 10 = .ok (.aload_n 2, 1) := by decide +kernel
theorem dX10_firstParting_11 : decode cX10_firstParting 11 = .ok (.invokevirtual 136, 3) := by decide +kernel
theorem dX10_firstParting_14 : decode cX10_firstParting 14 = .ok (.ifCond .eq 8, 3) := by decide +kernel
theorem dX10_firstParting_17 : decode cX10_firstParting 17 = .ok (.iload 4, 2) := by decide +kernel
theorem dX10_firstParting_19 : decode cX10_firstParting 19 = .ok (.goto 5, 3) := by decide +kernel
theorem dX10_firstParting_22 : decode cX10_firstParting 22 = .ok (.bipush (-2), 2) := by decide +kernel
theorem dX10_firstParting_24 : decode cX10_firstParting 24 = .ok (.ireturn, 1) := by decide +kernel
theorem dX10_firstParting_25 : decode cX10_firstParting 25 = .ok (.iconst 0, 1) := by decide +kernel
theorem dX10_firstParting_26 : decode cX10_firstParting 26 = .ok (.istore 5, 2) := by decide +kernel
theorem dX10_firstParting_28 : decode cX10_firstParting 28 = .ok (.iload 5, 2) := by decide +kernel
theorem dX10_firstParting_30 : decode cX10_firstParting 30 = .ok (.aload_n 0, 1) := by decide +kernel
theorem dX10_firstParting_31 : decode cX10_firstParting 31 = .ok (.getfield 9, 3) := by decide +kernel
theorem dX10_firstParting_34 : decode cX10_firstParting 34 = .ok (.if_icmp .ge 45, 3) := by decide +kernel
theorem dX10_firstParting_37 : decode cX10_firstParting 37 = .ok (.aload_n 0, 1) := by decide +kernel
theorem dX10_firstParting_38 : decode cX10_firstParting 38 = .ok (.iload_n 3, 1) := by decide +kernel
theorem dX10_firstParting_39 : decode cX10_firstParting 39 = .ok (.iload 5, 2) := by decide +kernel
theorem dX10_firstParting_41 : decode cX10_firstParting 41 = .ok (.invokevirtual 126, 3) := by decide +kernel
theorem dX10_firstParting_44 : decode cX10_firstParting 44 = .ok (.aload_n 0, 1) := by decide +kernel
theorem dX10_firstParting_45 : decode cX10_firstParting 45 = .ok (.aload_n 1, 1) := by decide +kernel
theorem dX10_firstParting_46 : decode cX10_firstParting 46 = .ok (.aload_n 2, 1) := by decide +kernel
theorem dX10_firstParting_47 : decode cX10_firstParting 47 = .ok (.iload_n 3, 1) := by decide +kernel
theorem dX10_firstParting_48 : decode cX10_firstParting 48 = .ok (.iconst 1, 1) := by decide +kernel
theorem dX10_firstParting_49 : decode cX10_firstParting 49 = .ok (.iadd, 1) := by decide +kernel
theorem dX10_firstParting_50 : decode cX10_firstParting 50 = .ok (.iload 4, 2) := by decide +kernel
theorem dX10_firstParting_52 : decode cX10_firstParting 52 = .ok (.bipush 10, 2) := by decide +kernel
theorem dX10_firstParting_54 : decode cX10_firstParting 54 = .ok (.imul, 1) := by decide +kernel
theorem dX10_firstParting_55 : decode cX10_firstParting 55 = .ok (.iload 5, 2) := by decide +kernel
theorem dX10_firstParting_57 : decode cX10_firstParting 57 = .ok (.iadd, 1) := by decide +kernel
theorem dX10_firstParting_58 : decode cX10_firstParting 58 = .ok (.invokevirtual 140, 3) := by decide +kernel
theorem dX10_firstParting_61 : decode cX10_firstParting 61 = .ok (.istore 6, 2) := by decide +kernel
theorem dX10_firstParting_63 : decode cX10_firstParting 63 = .ok (.iload 6, 2) := by decide +kernel
theorem dX10_firstParting_65 : decode cX10_firstParting 65 = .ok (.bipush (-2), 2) := by decide +kernel
theorem dX10_firstParting_67 : decode cX10_firstParting 67 = .ok (.if_icmp .eq 6, 3) := by decide +kernel
theorem dX10_firstParting_70 : decode cX10_firstParting 70 = .ok (.iload 6, 2) := by decide +kernel
theorem dX10_firstParting_72 : decode cX10_firstParting 72 = .ok (.ireturn, 1) := by decide +kernel
theorem dX10_firstParting_73 : decode cX10_firstParting 73 = .ok (.iinc 5 1, 3) := by decide +kernel
theorem dX10_firstParting_76 : decode cX10_firstParting 76 = .ok (.goto (-48), 3) := by decide +kernel
theorem dX10_firstParting_79 : decode cX10_firstParting 79 = .ok (.bipush (-2), 2) := by decide +kernel
theorem dX10_firstParting_81 : decode cX10_firstParting 81 = .ok (.ireturn, 1) := by decide +kernel
theorem dX10_isParting_0 : decode cX10_isParting 0 = .ok (.iconst 0, 1) := by decide +kernel
theorem dX10_isParting_1 : decode cX10_isParting 1 = .ok (.istore_n 3, 1) := by decide +kernel
theorem dX10_isParting_2 : decode cX10_isParting 2 = .ok (.iload_n 3, 1) := by decide +kernel
theorem dX10_isParting_3 : decode cX10_isParting 3 = .ok (.aload_n 0, 1) := by decide +kernel
theorem dX10_isParting_4 : decode cX10_isParting 4 = .ok (.getfield 28, 3) := by decide +kernel
theorem dX10_isParting_7 : decode cX10_isParting 7 = .ok (.arraylength, 1) := by decide +kernel
theorem dX10_isParting_8 : decode cX10_isParting 8 = .ok (.if_icmp .ge 16, 3) := by decide +kernel
theorem dX10_isParting_11 : decode cX10_isParting 11 = .ok (.aload_n 0, 1) := by decide +kernel
theorem dX10_isParting_12 : decode cX10_isParting 12 = .ok (.getfield 28, 3) := by decide +kernel
theorem dX10_isParting_15 : decode cX10_isParting 15 = .ok (.iload_n 3, 1) := by decide +kernel
theorem dX10_isParting_16 : decode cX10_isParting 16 = .ok (.lconst 0, 1) := by decide +kernel
theorem dX10_isParting_17 : decode cX10_isParting 17 = .ok (.lastore, 1) := by decide +kernel
theorem dX10_isParting_18 : decode cX10_isParting 18 = .ok (.iinc 3 1, 3) := by decide +kernel
theorem dX10_isParting_21 : decode cX10_isParting 21 = .ok (.goto (-19), 3) := by decide +kernel
theorem dX10_isParting_24 : decode cX10_isParting 24 = .ok (.aload_n 0, 1) := by decide +kernel
theorem dX10_isParting_25 : decode cX10_isParting 25 = .ok (.aload_n 1, 1) := by decide +kernel
theorem dX10_isParting_26 : decode cX10_isParting 26 = .ok (.putfield 37, 3) := by decide +kernel
theorem dX10_isParting_29 : decode cX10_isParting 29 = .ok (.aload_n 0, 1) := by decide +kernel
theorem dX10_isParting_30 : decode cX10_isParting 30 = .ok (.iconst 0, 1) := by decide +kernel
theorem dX10_isParting_31 : decode cX10_isParting 31 = .ok (.iconst 1, 1) := by decide +kernel
theorem dX10_isParting_32 : decode cX10_isParting 32 = .ok (.iconst 0, 1) := by decide +kernel
theorem dX10_isParting_33 : decode cX10_isParting 33 = .ok (.iconst 1, 1) := by decide +kernel
theorem dX10_isParting_34 : decode cX10_isParting 34 = .ok (.invokevirtual 144, 3) := by decide +kernel
theorem dX10_isParting_37 : decode cX10_isParting 37 = .ok (.aload_n 0, 1) := by decide +kernel
theorem dX10_isParting_38 : decode cX10_isParting 38 = .ok (.aload_n 2, 1) := by decide +kernel
theorem dX10_isParting_39 : decode cX10_isParting 39 = .ok (.putfield 37, 3) := by decide +kernel
theorem dX10_isParting_42 : decode cX10_isParting 42 = .ok (.aload_n 0, 1) := by decide +kernel
theorem dX10_isParting_43 : decode cX10_isParting 43 = .ok (.iconst 0, 1) := by decide +kernel
theorem dX10_isParting_44 : decode cX10_isParting 44 = .ok (.iconst 1, 1) := by decide +kernel
theorem dX10_isParting_45 : decode cX10_isParting 45 = .ok (.iconst 0, 1) := by decide +kernel
theorem dX10_isParting_46 : decode cX10_isParting 46 = .ok (.iconst (-1), 1) := by decide +kernel
theorem dX10_isParting_47 : decode cX10_isParting 47 = .ok (.invokevirtual 144, 3) := by decide +kernel
theorem dX10_isParting_50 : decode cX10_isParting 50 = .ok (.iconst 0, 1) := by decide +kernel
theorem dX10_isParting_51 : decode cX10_isParting 51 = .ok (.istore_n 3, 1) := by decide +kernel
theorem dX10_isParting_52 : decode cX10_isParting 52 = .ok (.iload_n 3, 1) := by decide +kernel
theorem dX10_isParting_53 : decode cX10_isParting 53 = .ok (.aload_n 0, 1) := by decide +kernel
theorem dX10_isParting_54 : decode cX10_isParting 54 = .ok (.getfield 28, 3) := by decide +kernel
theorem dX10_isParting_57 : decode cX10_isParting 57 = .ok (.arraylength, 1) := by decide +kernel
theorem dX10_isParting_58 : decode cX10_isParting 58 = .ok (.if_icmp .ge 22, 3) := by decide +kernel
theorem dX10_isParting_61 : decode cX10_isParting 61 = .ok (.aload_n 0, 1) := by decide +kernel
theorem dX10_isParting_62 : decode cX10_isParting 62 = .ok (.getfield 28, 3) := by decide +kernel
theorem dX10_isParting_65 : decode cX10_isParting 65 = .ok (.iload_n 3, 1) := by decide +kernel
theorem dX10_isParting_66 : decode cX10_isParting 66 = .ok (.laload, 1) := by decide +kernel
theorem dX10_isParting_67 : decode cX10_isParting 67 = .ok (.lconst 0, 1) := by decide +kernel
theorem dX10_isParting_68 : decode cX10_isParting 68 = .ok (.lcmp, 1) := by decide +kernel
theorem dX10_isParting_69 : decode cX10_isParting 69 = .ok (.ifCond .eq 5, 3) := by decide +kernel
theorem dX10_isParting_72 : decode cX10_isParting 72 = .ok (.iconst 1, 1) := by decide +kernel
theorem dX10_isParting_73 : decode cX10_isParting 73 = .ok (.ireturn, 1) := by decide +kernel
theorem dX10_isParting_74 : decode cX10_isParting 74 = .ok (.iinc 3 1, 3) := by decide +kernel
theorem dX10_isParting_77 : decode cX10_isParting 77 = .ok (.goto (-25), 3) := by decide +kernel
theorem dX10_isParting_80 : decode cX10_isParting 80 = .ok (.iconst 0, 1) := by decide +kernel
theorem dX10_isParting_81 : decode cX10_isParting 81 = .ok (.ireturn, 1) := by decide +kernel
theorem dX10_run_0 : decode cX10_run 0 = .ok (.aload_n 0, 1) := by decide +kernel
theorem dX10_run_1 : decode cX10_run 1 = .ok (.iload_n 3, 1) := by decide +kernel
theorem dX10_run_2 : decode cX10_run 2 = .ok (.invokevirtual 66, 3) := by decide +kernel
theorem dX10_run_5 : decode cX10_run 5 = .ok (.astore 5, 2) := by decide +kernel
theorem dX10_run_7 : decode cX10_run 7 = .ok (.iload_n 1, 1) := by decide +kernel
theorem dX10_run_8 : decode cX10_run 8 = .ok (.ifCond .lt 16, 3) := by decide +kernel
theorem dX10_run_11 : decode cX10_run 11 = .ok (.aload_n 0, 1) := by decide +kernel
theorem dX10_run_12 : decode cX10_run 12 = .ok (.getfield 37, 3) := by decide +kernel
theorem dX10_run_15 : decode cX10_run 15 = .ok (.iload_n 1, 1) := by decide +kernel
theorem dX10_run_16 : decode cX10_run 16 = .ok (.aload 5, 2) := by decide +kernel
theorem dX10_run_18 : decode cX10_run 18 = .ok (.invokevirtual 87, 3) := by decide +kernel
theorem dX10_run_21 : decode cX10_run 21 = .ok (.ifCond .eq 4, 3) := by decide +kernel
theorem dX10_run_24 : decode cX10_run 24 = .ok (.return_, 1) := by decide +kernel
theorem dX10_run_25 : decode cX10_run 25 = .ok (.aload_n 0, 1) := by decide +kernel
theorem dX10_run_26 : decode cX10_run 26 = .ok (.getfield 37, 3) := by decide +kernel
theorem dX10_run_29 : decode cX10_run 29 = .ok (.iload_n 1, 1) := by decide +kernel
theorem dX10_run_30 : decode cX10_run 30 = .ok (.iconst 0, 1) := by decide +kernel
theorem dX10_run_31 : decode cX10_run 31 = .ok (.invokevirtual 91, 3) := by decide +kernel
theorem dX10_run_34 : decode cX10_run 34 = .ok (.istore 6, 2) := by decide +kernel
theorem dX10_run_36 : decode cX10_run 36 = .ok (.iload 6, 2) := by decide +kernel
theorem dX10_run_38 : decode cX10_run 38 = .ok (.iconst 1, 1) := by decide +kernel
theorem dX10_run_39 : decode cX10_run 39 = .ok (.if_icmp .ne 34, 3) := by decide +kernel
theorem dX10_run_42 : decode cX10_run 42 = .ok (.aload_n 0, 1) := by decide +kernel
theorem dX10_run_43 : decode cX10_run 43 = .ok (.getfield 28, 3) := by decide +kernel
theorem dX10_run_46 : decode cX10_run 46 = .ok (.iconst 0, 1) := by decide +kernel
theorem dX10_run_47 : decode cX10_run 47 = .ok (.iload_n 3, 1) := by decide +kernel
theorem dX10_run_48 : decode cX10_run 48 = .ok (.iconst 4, 1) := by decide +kernel
theorem dX10_run_49 : decode cX10_run 49 = .ok (.invokestatic 50, 3) := by decide +kernel
theorem dX10_run_52 : decode cX10_run 52 = .ok (.invokestatic 63, 3) := by decide +kernel
theorem dX10_run_55 : decode cX10_run 55 = .ok (.dup2, 1) := by decide +kernel
theorem dX10_run_56 : decode cX10_run 56 = .ok (.laload, 1) := by decide +kernel
theorem dX10_run_57 : decode cX10_run 57 = .ok (.iload 4, 2) := by decide +kernel
theorem dX10_run_59 : decode cX10_run 59 = .ok (.aload_n 0, 1) := by decide +kernel
theorem dX10_run_60 : decode cX10_run 60 = .ok (.getfield 37, 3) := by decide +kernel
theorem dX10_run_63 : decode cX10_run 63 = .ok (.iload_n 1, 1) := by decide +kernel
theorem dX10_run_64 : decode cX10_run 64 = .ok (.iload_n 2, 1) := by decide +kernel
theorem dX10_run_65 : decode cX10_run 65 = .ok (.invokevirtual 94, 3) := by decide +kernel
theorem dX10_run_68 : decode cX10_run 68 = .ok (.imul, 1) := by decide +kernel
theorem dX10_run_69 : decode cX10_run 69 = .ok (.i2l, 1) := by decide +kernel
theorem dX10_run_70 : decode cX10_run 70 = .ok (.ladd, 1) := by decide +kernel
theorem dX10_run_71 : decode cX10_run 71 = .ok (.lastore, 1) := by decide +kernel
theorem dX10_run_72 : decode cX10_run 72 = .ok (.return_, 1) := by decide +kernel
theorem dX10_run_73 : decode cX10_run 73 = .ok (.iload 6, 2) := by decide +kernel
theorem dX10_run_75 : decode cX10_run 75 = .ok (.bipush 6, 2) := by decide +kernel
theorem dX10_run_77 : decode cX10_run 77 = .ok (.if_icmp .ne 36, 3) := by decide +kernel
theorem dX10_run_80 : decode cX10_run 80 = .ok (.aload_n 0, 1) := by decide +kernel
theorem dX10_run_81 : decode cX10_run 81 = .ok (.getfield 37, 3) := by decide +kernel
theorem dX10_run_84 : decode cX10_run 84 = .ok (.iload_n 1, 1) := by decide +kernel
theorem dX10_run_85 : decode cX10_run 85 = .ok (.aload 5, 2) := by decide +kernel
theorem dX10_run_87 : decode cX10_run 87 = .ok (.invokevirtual 104, 3) := by decide +kernel
theorem dX10_run_90 : decode cX10_run 90 = .ok (.ifCond .ne 23, 3) := by decide +kernel
theorem dX10_run_93 : decode cX10_run 93 = .ok (.iload_n 3, 1) := by decide +kernel
theorem dX10_run_94 : decode cX10_run 94 = .ok (.aload_n 0, 1) := by decide +kernel
theorem dX10_run_95 : decode cX10_run 95 = .ok (.getfield 56, 3) := by decide +kernel
theorem dX10_run_98 : decode cX10_run 98 = .ok (.if_icmp .ge 14, 3) := by decide +kernel
theorem dX10_run_101 : decode cX10_run 101 = .ok (.aload_n 0, 1) := by decide +kernel
theorem dX10_run_102 : decode cX10_run 102 = .ok (.iload_n 1, 1) := by decide +kernel
theorem dX10_run_103 : decode cX10_run 103 = .ok (.iload_n 2, 1) := by decide +kernel
theorem dX10_run_104 : decode cX10_run 104 = .ok (.iload_n 3, 1) := by decide +kernel
theorem dX10_run_105 : decode cX10_run 105 = .ok (.iconst 1, 1) := by decide +kernel
theorem dX10_run_106 : decode cX10_run 106 = .ok (.iadd, 1) := by decide +kernel
theorem dX10_run_107 : decode cX10_run 107 = .ok (.iload 4, 2) := by decide +kernel
theorem dX10_run_109 : decode cX10_run 109 = .ok (.invokevirtual 144, 3) := by decide +kernel
theorem dX10_run_112 : decode cX10_run 112 = .ok (.return_, 1) := by decide +kernel
theorem dX10_run_113 : decode cX10_run 113 = .ok (.aload_n 0, 1) := by decide +kernel
theorem dX10_run_114 : decode cX10_run 114 = .ok (.getfield 37, 3) := by decide +kernel
theorem dX10_run_117 : decode cX10_run 117 = .ok (.iload_n 1, 1) := by decide +kernel
theorem dX10_run_118 : decode cX10_run 118 = .ok (.iload_n 2, 1) := by decide +kernel
theorem dX10_run_119 : decode cX10_run 119 = .ok (.aload 5, 2) := by decide +kernel
theorem dX10_run_121 : decode cX10_run 121 = .ok (.invokevirtual 117, 3) := by decide +kernel
theorem dX10_run_124 : decode cX10_run 124 = .ok (.istore 7, 2) := by decide +kernel
theorem dX10_run_126 : decode cX10_run 126 = .ok (.aload_n 0, 1) := by decide +kernel
theorem dX10_run_127 : decode cX10_run 127 = .ok (.aload_n 0, 1) := by decide +kernel
theorem dX10_run_128 : decode cX10_run 128 = .ok (.getfield 37, 3) := by decide +kernel
theorem dX10_run_131 : decode cX10_run 131 = .ok (.iload_n 1, 1) := by decide +kernel
theorem dX10_run_132 : decode cX10_run 132 = .ok (.aload 5, 2) := by decide +kernel
theorem dX10_run_134 : decode cX10_run 134 = .ok (.invokevirtual 113, 3) := by decide +kernel
theorem dX10_run_137 : decode cX10_run 137 = .ok (.iload 7, 2) := by decide +kernel
theorem dX10_run_139 : decode cX10_run 139 = .ok (.iload_n 3, 1) := by decide +kernel
theorem dX10_run_140 : decode cX10_run 140 = .ok (.iload 4, 2) := by decide +kernel
theorem dX10_run_142 : decode cX10_run 142 = .ok (.invokevirtual 144, 3) := by decide +kernel
theorem dX10_run_145 : decode cX10_run 145 = .ok (.iload 6, 2) := by decide +kernel
theorem dX10_run_147 : decode cX10_run 147 = .ok (.iconst 3, 1) := by decide +kernel
theorem dX10_run_148 : decode cX10_run 148 = .ok (.if_icmp .ne 21, 3) := by decide +kernel
theorem dX10_run_151 : decode cX10_run 151 = .ok (.aload_n 0, 1) := by decide +kernel
theorem dX10_run_152 : decode cX10_run 152 = .ok (.aload_n 0, 1) := by decide +kernel
theorem dX10_run_153 : decode cX10_run 153 = .ok (.getfield 37, 3) := by decide +kernel
theorem dX10_run_156 : decode cX10_run 156 = .ok (.iload_n 1, 1) := by decide +kernel
theorem dX10_run_157 : decode cX10_run 157 = .ok (.iconst 4, 1) := by decide +kernel
theorem dX10_run_158 : decode cX10_run 158 = .ok (.invokevirtual 91, 3) := by decide +kernel
theorem dX10_run_161 : decode cX10_run 161 = .ok (.iload 7, 2) := by decide +kernel
theorem dX10_run_163 : decode cX10_run 163 = .ok (.iload_n 3, 1) := by decide +kernel
theorem dX10_run_164 : decode cX10_run 164 = .ok (.iload 4, 2) := by decide +kernel
theorem dX10_run_166 : decode cX10_run 166 = .ok (.invokevirtual 144, 3) := by decide +kernel
theorem dX10_run_169 : decode cX10_run 169 = .ok (.return_, 1) := by decide +kernel
theorem dX11_init_0 : decode cX11_init 0 = .ok (.aload_n 0, 1) := by decide +kernel
theorem dX11_init_1 : decode cX11_init 1 = .ok (.invokespecial 3, 3) := by decide +kernel
theorem dX11_init_4 : decode cX11_init 4 = .ok (.aload_n 0, 1) := by decide +kernel
theorem dX11_init_5 : decode cX11_init 5 = .ok (.new 9, 3) := by decide +kernel
theorem dX11_init_8 : decode cX11_init 8 = .ok (.dup, 1) := by decide +kernel
theorem dX11_init_9 : decode cX11_init 9 = .ok (.invokespecial 11, 3) := by decide +kernel
theorem dX11_init_12 : decode cX11_init 12 = .ok (.putfield 12, 3) := by decide +kernel
theorem dX11_init_15 : decode cX11_init 15 = .ok (.aload_n 0, 1) := by decide +kernel
theorem dX11_init_16 : decode cX11_init 16 = .ok (.new 16, 3) := by decide +kernel
theorem dX11_init_19 : decode cX11_init 19 = .ok (.dup, 1) := by decide +kernel
theorem dX11_init_20 : decode cX11_init 20 = .ok (.sipush 400, 3) := by decide +kernel
theorem dX11_init_23 : decode cX11_init 23 = .ok (.invokespecial 18, 3) := by decide +kernel
theorem dX11_init_26 : decode cX11_init 26 = .ok (.putfield 21, 3) := by decide +kernel
theorem dX11_init_29 : decode cX11_init 29 = .ok (.aload_n 0, 1) := by decide +kernel
theorem dX11_init_30 : decode cX11_init 30 = .ok (.new 16, 3) := by decide +kernel
theorem dX11_init_33 : decode cX11_init 33 = .ok (.dup, 1) := by decide +kernel
theorem dX11_init_34 : decode cX11_init 34 = .ok (.sipush 480, 3) := by decide +kernel
theorem dX11_init_37 : decode cX11_init 37 = .ok (.invokespecial 18, 3) := by decide +kernel
theorem dX11_init_40 : decode cX11_init 40 = .ok (.putfield 25, 3) := by decide +kernel
theorem dX11_init_43 : decode cX11_init 43 = .ok (.aload_n 0, 1) := by decide +kernel
theorem dX11_init_44 : decode cX11_init 44 = .ok (.bipush 20, 2) := by decide +kernel
theorem dX11_init_46 : decode cX11_init 46 = .ok (.anewarray 28, 3) := by decide +kernel
theorem dX11_init_49 : decode cX11_init 49 = .ok (.putfield 30, 3) := by decide +kernel
theorem dX11_init_52 : decode cX11_init 52 = .ok (.aload_n 0, 1) := by decide +kernel
theorem dX11_init_53 : decode cX11_init 53 = .ok (.new 28, 3) := by decide +kernel
theorem dX11_init_56 : decode cX11_init 56 = .ok (.dup, 1) := by decide +kernel
theorem dX11_init_57 : decode cX11_init 57 = .ok (.bipush 40, 2) := by decide +kernel
theorem dX11_init_59 : decode cX11_init 59 = .ok (.bipush 40, 2) := by decide +kernel
theorem dX11_init_61 : decode cX11_init 61 = .ok (.invokespecial 34, 3) := by decide +kernel
theorem dX11_init_64 : decode cX11_init 64 = .ok (.putfield 37, 3) := by decide +kernel
theorem dX11_init_67 : decode cX11_init 67 = .ok (.aload_n 0, 1) := by decide +kernel
theorem dX11_init_68 : decode cX11_init 68 = .ok (.new 28, 3) := by decide +kernel
theorem dX11_init_71 : decode cX11_init 71 = .ok (.dup, 1) := by decide +kernel
theorem dX11_init_72 : decode cX11_init 72 = .ok (.bipush 40, 2) := by decide +kernel
theorem dX11_init_74 : decode cX11_init 74 = .ok (.bipush 40, 2) := by decide +kernel
theorem dX11_init_76 : decode cX11_init 76 = .ok (.invokespecial 34, 3) := by decide +kernel
theorem dX11_init_79 : decode cX11_init 79 = .ok (.putfield 41, 3) := by decide +kernel
theorem dX11_init_82 : decode cX11_init 82 = .ok (.aload_n 0, 1) := by decide +kernel
theorem dX11_init_83 : decode cX11_init 83 = .ok (.new 44, 3) := by decide +kernel
theorem dX11_init_86 : decode cX11_init 86 = .ok (.dup, 1) := by decide +kernel
theorem dX11_init_87 : decode cX11_init 87 = .ok (.aload_n 0, 1) := by decide +kernel
theorem dX11_init_88 : decode cX11_init 88 = .ok (.getfield 21, 3) := by decide +kernel
theorem dX11_init_91 : decode cX11_init 91 = .ok (.aload_n 0, 1) := by decide +kernel
theorem dX11_init_92 : decode cX11_init 92 = .ok (.getfield 37, 3) := by decide +kernel
theorem dX11_init_95 : decode cX11_init 95 = .ok (.invokespecial 46, 3) := by decide +kernel
theorem dX11_init_98 : decode cX11_init 98 = .ok (.putfield 49, 3) := by decide +kernel
theorem dX11_init_101 : decode cX11_init 101 = .ok (.aload_n 0, 1) := by decide +kernel
theorem dX11_init_102 : decode cX11_init 102 = .ok (.new 53, 3) := by decide +kernel
theorem dX11_init_105 : decode cX11_init 105 = .ok (.dup, 1) := by decide +kernel
theorem dX11_init_106 : decode cX11_init 106 = .ok (.aload_n 0, 1) := by decide +kernel
theorem dX11_init_107 : decode cX11_init 107 = .ok (.getfield 25, 3) := by decide +kernel
theorem dX11_init_110 : decode cX11_init 110 = .ok (.invokespecial 55, 3) := by decide +kernel
theorem dX11_init_113 : decode cX11_init 113 = .ok (.putfield 58, 3) := by decide +kernel
theorem dX11_init_116 : decode cX11_init 116 = .ok (.aload_n 0, 1) := by decide +kernel
theorem dX11_init_117 : decode cX11_init 117 = .ok (.new 62, 3) := by decide +kernel
theorem dX11_init_120 : decode cX11_init 120 = .ok (.dup, 1) := by decide +kernel
theorem dX11_init_121 : decode cX11_init 121 = .ok (.invokespecial 64, 3) := by decide +kernel
theorem dX11_init_124 : decode cX11_init 124 = .ok (.putfield 65, 3) := by decide +kernel
theorem dX11_init_127 : decode cX11_init 127 = .ok (.aload_n 0, 1) := by decide +kernel
theorem dX11_init_128 : decode cX11_init 128 = .ok (.new 69, 3) := by decide +kernel
theorem dX11_init_131 : decode cX11_init 131 = .ok (.dup, 1) := by decide +kernel
theorem dX11_init_132 : decode cX11_init 132 = .ok (.invokespecial 71, 3) := by decide +kernel
theorem dX11_init_135 : decode cX11_init 135 = .ok (.putfield 72, 3) := by decide +kernel
theorem dX11_init_138 : decode cX11_init 138 = .ok (.aload_n 0, 1) := by decide +kernel
theorem dX11_init_139 : decode cX11_init 139 = .ok (.new 76, 3) := by decide +kernel
theorem dX11_init_142 : decode cX11_init 142 = .ok (.dup, 1) := by decide +kernel
theorem dX11_init_143 : decode cX11_init 143 = .ok (.aload_n 0, 1) := by decide +kernel
theorem dX11_init_144 : decode cX11_init 144 = .ok (.getfield 12, 3) := by decide +kernel
theorem dX11_init_147 : decode cX11_init 147 = .ok (.getfield 78, 3) := by decide +kernel
theorem dX11_init_150 : decode cX11_init 150 = .ok (.aload_n 0, 1) := by decide +kernel
theorem dX11_init_151 : decode cX11_init 151 = .ok (.getfield 72, 3) := by decide +kernel
theorem dX11_init_154 : decode cX11_init 154 = .ok (.invokespecial 82, 3) := by decide +kernel
theorem dX11_init_157 : decode cX11_init 157 = .ok (.putfield 85, 3) := by decide +kernel
theorem dX11_init_160 : decode cX11_init 160 = .ok (.aload_n 0, 1) := by decide +kernel
theorem dX11_init_161 : decode cX11_init 161 = .ok (.new 89, 3) := by decide +kernel
theorem dX11_init_164 : decode cX11_init 164 = .ok (.dup, 1) := by decide +kernel
theorem dX11_init_165 : decode cX11_init 165 = .ok (.aload_n 0, 1) := by decide +kernel
theorem dX11_init_166 : decode cX11_init 166 = .ok (.getfield 12, 3) := by decide +kernel
theorem dX11_init_169 : decode cX11_init 169 = .ok (.getfield 78, 3) := by decide +kernel
theorem dX11_init_172 : decode cX11_init 172 = .ok (.invokespecial 91, 3) := by decide +kernel
theorem dX11_init_175 : decode cX11_init 175 = .ok (.putfield 94, 3) := by decide +kernel
theorem dX11_init_178 : decode cX11_init 178 = .ok (.return_, 1) := by decide +kernel
theorem dX11_see_0 : decode cX11_see 0 = .ok (.aload_n 0, 1) := by decide +kernel
theorem dX11_see_1 : decode cX11_see 1 = .ok (.getfield 12, 3) := by decide +kernel
theorem dX11_see_4 : decode cX11_see 4 = .ok (.iload_n 1, 1) := by decide +kernel
theorem dX11_see_5 : decode cX11_see 5 = .ok (.iload_n 2, 1) := by decide +kernel
theorem dX11_see_6 : decode cX11_see 6 = .ok (.iload_n 3, 1) := by decide +kernel
theorem dX11_see_7 : decode cX11_see 7 = .ok (.invokevirtual 98, 3) := by decide +kernel
theorem dX11_see_10 : decode cX11_see 10 = .ok (.ireturn, 1) := by decide +kernel
theorem dX11_seen_0 : decode cX11_seen 0 = .ok (.aload_n 0, 1) := by decide +kernel
theorem dX11_seen_1 : decode cX11_seen 1 = .ok (.getfield 12, 3) := by decide +kernel
theorem dX11_seen_4 : decode cX11_seen 4 = .ok (.iload_n 1, 1) := by decide +kernel
theorem dX11_seen_5 : decode cX11_seen 5 = .ok (.iload_n 2, 1) := by decide +kernel
theorem dX11_seen_6 : decode cX11_seen 6 = .ok (.invokevirtual 102, 3) := by decide +kernel
theorem dX11_seen_9 : decode cX11_seen 9 = .ok (.ireturn, 1) := by decide +kernel
theorem dX11_feed_0 : decode cX11_feed 0 = .ok (.aload_n 0, 1) := by decide +kernel
theorem dX11_feed_1 : decode cX11_feed 1 = .ok (.getfield 21, 3) := by decide +kernel
theorem dX11_feed_4 : decode cX11_feed 4 = .ok (.invokevirtual 106, 3) := by decide +kernel
theorem dX11_feed_7 : decode cX11_feed 7 = .ok (.bipush 20, 2) := by decide +kernel
theorem dX11_feed_9 : decode cX11_feed 9 = .ok (.iadd, 1) := by decide +kernel
theorem dX11_feed_10 : decode cX11_feed 10 = .ok (.sipush 400, 3) := by decide +kernel
theorem dX11_feed_13 : decode cX11_feed 13 = .ok (.if_icmp .le 5, 3) := by decide +kernel
theorem dX11_feed_16 : decode cX11_feed 16 = .ok (.iconst (-1), 1) := by decide +kernel
theorem dX11_feed_17 : decode cX11_feed 17 = .ok (.ireturn, 1) := by decide +kernel
theorem dX11_feed_18 : decode cX11_feed 18 = .ok (.aload_n 0, 1) := by decide +kernel
theorem dX11_feed_19 : decode cX11_feed 19 = .ok (.getfield 21, 3) := by decide +kernel
theorem dX11_feed_22 : decode cX11_feed 22 = .ok (.iload_n 1, 1) := by decide +kernel
theorem dX11_feed_23 : decode cX11_feed 23 = .ok (.invokevirtual 110, 3) := by decide +kernel
theorem dX11_feed_26 : decode cX11_feed 26 = .ok (.aload_n 0, 1) := by decide +kernel
theorem dX11_feed_27 : decode cX11_feed 27 = .ok (.getfield 21, 3) := by decide +kernel
theorem dX11_feed_30 : decode cX11_feed 30 = .ok (.iload_n 2, 1) := by decide +kernel
theorem dX11_feed_31 : decode cX11_feed 31 = .ok (.invokevirtual 110, 3) := by decide +kernel
theorem dX11_feed_34 : decode cX11_feed 34 = .ok (.aload_n 0, 1) := by decide +kernel
theorem dX11_feed_35 : decode cX11_feed 35 = .ok (.getfield 21, 3) := by decide +kernel
theorem dX11_feed_38 : decode cX11_feed 38 = .ok (.iload_n 3, 1) := by decide +kernel
theorem dX11_feed_39 : decode cX11_feed 39 = .ok (.invokevirtual 110, 3) := by decide +kernel
theorem dX11_feed_42 : decode cX11_feed 42 = .ok (.aload_n 0, 1) := by decide +kernel
theorem dX11_feed_43 : decode cX11_feed 43 = .ok (.getfield 21, 3) := by decide +kernel
theorem dX11_feed_46 : decode cX11_feed 46 = .ok (.iload 4, 2) := by decide +kernel
theorem dX11_feed_48 : decode cX11_feed 48 = .ok (.invokevirtual 110, 3) := by decide +kernel
theorem dX11_feed_51 : decode cX11_feed 51 = .ok (.aload_n 0, 1) := by decide +kernel
theorem dX11_feed_52 : decode cX11_feed 52 = .ok (.getfield 21, 3) := by decide +kernel
theorem dX11_feed_55 : decode cX11_feed 55 = .ok (.iload 5, 2) := by decide +kernel
theorem dX11_feed_57 : decode cX11_feed 57 = .ok (.invokevirtual 110, 3) := by decide +kernel
theorem dX11_feed_60 : decode cX11_feed 60 = .ok (.aload_n 0, 1) := by decide +kernel
theorem dX11_feed_61 : decode cX11_feed 61 = .ok (.getfield 21, 3) := by decide +kernel
theorem dX11_feed_64 : decode cX11_feed 64 = .ok (.invokevirtual 106, 3) := by decide +kernel
theorem dX11_feed_67 : decode cX11_feed 67 = .ok (.ireturn, 1) := by decide +kernel
theorem dX11_end_0 : decode cX11_end 0 = .ok (.iload_n 1, 1) := by decide +kernel
theorem dX11_end_1 : decode cX11_end 1 = .ok (.ifCond .lt 14, 3) := by decide +kernel
theorem dX11_end_4 : decode cX11_end 4 = .ok (.iload_n 1, 1) := by decide +kernel
theorem dX11_end_5 : decode cX11_end 5 = .ok (.aload_n 0, 1) := by decide +kernel
theorem dX11_end_6 : decode cX11_end 6 = .ok (.getfield 21, 3) := by decide +kernel
theorem dX11_end_9 : decode cX11_end 9 = .ok (.invokevirtual 106, 3) := by decide +kernel
theorem dX11_end_12 : decode cX11_end 12 = .ok (.if_icmp .le 5, 3) := by decide +kernel
theorem dX11_end_15 : decode cX11_end 15 = .ok (.iconst (-1), 1) := by decide +kernel
theorem dX11_end_16 : decode cX11_end 16 = .ok (.ireturn, 1) := by decide +kernel
theorem dX11_end_17 : decode cX11_end 17 = .ok (.aload_n 0, 1) := by decide +kernel
theorem dX11_end_18 : decode cX11_end 18 = .ok (.getfield 21, 3) := by decide +kernel
theorem dX11_end_21 : decode cX11_end 21 = .ok (.iload_n 1, 1) := by decide +kernel
theorem dX11_end_22 : decode cX11_end 22 = .ok (.invokevirtual 113, 3) := by decide +kernel
theorem dX11_end_25 : decode cX11_end 25 = .ok (.iload_n 1, 1) := by decide +kernel
theorem dX11_end_26 : decode cX11_end 26 = .ok (.ireturn, 1) := by decide +kernel
theorem dX11_form_0 : decode cX11_form 0 = .ok (.aload_n 0, 1) := by decide +kernel
theorem dX11_form_1 : decode cX11_form 1 = .ok (.getfield 116, 3) := by decide +kernel
theorem dX11_form_4 : decode cX11_form 4 = .ok (.bipush 20, 2) := by decide +kernel
theorem dX11_form_6 : decode cX11_form 6 = .ok (.if_icmp .lt 5, 3) := by decide +kernel
theorem dX11_form_9 : decode cX11_form 9 = .ok (.iconst (-1), 1) := by decide +kernel
theorem dX11_form_10 : decode cX11_form 10 = .ok (.ireturn, 1) := by decide +kernel
theorem dX11_form_11 : decode cX11_form 11 = .ok (.aload_n 0, 1) := by decide +kernel
theorem dX11_form_12 : decode cX11_form 12 = .ok (.getfield 49, 3) := by decide +kernel
theorem dX11_form_15 : decode cX11_form 15 = .ok (.invokevirtual 120, 3) := by decide +kernel
theorem dX11_form_18 : decode cX11_form 18 = .ok (.istore_n 1, 1) := by decide +kernel
theorem dX11_form_19 : decode cX11_form 19 = .ok (.aload_n 0, 1) := by decide +kernel
theorem dX11_form_20 : decode cX11_form 20 = .ok (.getfield 21, 3) := by decide +kernel
theorem dX11_form_23 : decode cX11_form 23 = .ok (.iconst 0, 1) := by decide +kernel
theorem dX11_form_24 : decode cX11_form 24 = .ok (.invokevirtual 113, 3) := by decide +kernel
theorem dX11_form_27 : decode cX11_form 27 = .ok (.iload_n 1, 1) := by decide +kernel
theorem dX11_form_28 : decode cX11_form 28 = .ok (.ifCond .le 10, 3) := by decide +kernel
theorem dX11_form_31 : decode cX11_form 31 = .ok (.bipush (-2), 2) := by decide +kernel
theorem dX11_form_33 : decode cX11_form 33 = .ok (.iload_n 1, 1) := by decide +kernel
theorem dX11_form_34 : decode cX11_form 34 = .ok (.isub, 1) := by decide +kernel
theorem dX11_form_35 : decode cX11_form 35 = .ok (.goto 7, 3) := by decide +kernel
theorem dX11_form_38 : decode cX11_form 38 = .ok (.aload_n 0, 1) := by decide +kernel
theorem dX11_form_39 : decode cX11_form 39 = .ok (.invokevirtual 123, 3) := by decide +kernel
theorem dX11_form_42 : decode cX11_form 42 = .ok (.ireturn, 1) := by decide +kernel
theorem dX11_word_0 : decode cX11_word 0 = .ok (.aload_n 0, 1) := by decide +kernel
theorem dX11_word_1 : decode cX11_word 1 = .ok (.iload_n 1, 1) := by decide +kernel
theorem dX11_word_2 : decode cX11_word 2 = .ok (.invokevirtual 126, 3) := by decide +kernel
theorem dX11_word_5 : decode cX11_word 5 = .ok (.astore 4, 2) := by decide +kernel
theorem dX11_word_7 : decode cX11_word 7 = .ok (.aload 4, 2) := by decide +kernel
theorem dX11_word_9 : decode cX11_word 9 = .ok (.ifnull 12, 3) := by decide +kernel
theorem dX11_word_12 : decode cX11_word 12 = .ok (.iload_n 3, 1) := by decide +kernel
theorem dX11_word_13 : decode cX11_word 13 = .ok (.ifCond .lt 8, 3) := by decide +kernel
theorem dX11_word_16 : decode cX11_word 16 = .ok (.iload_n 3, 1) := by decide +kernel
theorem dX11_word_17 : decode cX11_word 17 = .ok (.iconst 2, 1) := by decide +kernel
theorem dX11_word_18 : decode cX11_word 18 = .ok (.if_icmp .le 5, 3) := by decide +kernel
theorem dX11_word_21 : decode cX11_word 21 = .ok (.iconst (-1), 1) := by decide +kernel
theorem dX11_word_22 : decode cX11_word 22 = .ok (.ireturn, 1) := by decide +kernel
theorem dX11_word_23 : decode cX11_word 23 = .ok (.iload_n 3, 1) := by decide +kernel
theorem dX11_word_24 : decode cX11_word 24 = .ok (.ifCond .ne 11, 3) := by decide +kernel
theorem dX11_word_27 : decode cX11_word 27 = .ok (.aload 4, 2) := by decide +kernel
theorem dX11_word_29 : decode cX11_word 29 = .ok (.iload_n 2, 1) := by decide +kernel
theorem dX11_word_30 : decode cX11_word 30 = .ok (.iconst 0, 1) := by decide +kernel
theorem dX11_word_31 : decode cX11_word 31 = .ok (.invokevirtual 130, 3) := by decide +kernel
theorem dX11_word_34 : decode cX11_word 34 = .ok (.ireturn, 1) := by decide +kernel
theorem dX11_word_35 : decode cX11_word 35 = .ok (.aload 4, 2) := by decide +kernel
theorem dX11_word_37 : decode cX11_word 37 = .ok (.iload_n 2, 1) := by decide +kernel
theorem dX11_word_38 : decode cX11_word 38 = .ok (.iload_n 3, 1) := by decide +kernel
theorem dX11_word_39 : decode cX11_word 39 = .ok (.iconst 1, 1) := by decide +kernel
theorem dX11_word_40 : decode cX11_word 40 = .ok (.if_icmp .ne 7, 3) := by decide +kernel
theorem dX11_word_43 : decode cX11_word 43 = .ok (.iconst 1, 1) := by decide +kernel
theorem dX11_word_44 : decode cX11_word 44 = .ok (.goto 4, 3) := by decide +kernel
theorem dX11_word_47 : decode cX11_word 47 = .ok (.iconst 2, 1) := by decide +kernel
theorem dX11_word_48 : decode cX11_word 48 = .ok (.invokevirtual 130, 3) := by decide +kernel
theorem dX11_word_51 : decode cX11_word 51 = .ok (.ireturn, 1) := by decide +kernel
theorem dX11_words_0 : decode cX11_words 0 = .ok (.aload_n 0, 1) := by decide +kernel
theorem dX11_words_1 : decode cX11_words 1 = .ok (.iload_n 1, 1) := by decide +kernel
theorem dX11_words_2 : decode cX11_words 2 = .ok (.invokevirtual 126, 3) := by decide +kernel
theorem dX11_words_5 : decode cX11_words 5 = .ok (.astore_n 2, 1) := by decide +kernel
theorem dX11_words_6 : decode cX11_words 6 = .ok (.aload_n 2, 1) := by decide +kernel
theorem dX11_words_7 : decode cX11_words 7 = .ok (.ifnonnull 7, 3) := by decide +kernel
theorem dX11_words_10 : decode cX11_words 10 = .ok (.iconst (-1), 1) := by decide +kernel
theorem dX11_words_11 : decode cX11_words 11 = .ok (.goto 7, 3) := by decide +kernel
theorem dX11_words_14 : decode cX11_words 14 = .ok (.aload_n 2, 1) := by decide +kernel
theorem dX11_words_15 : decode cX11_words 15 = .ok (.invokevirtual 133, 3) := by decide +kernel
theorem dX11_words_18 : decode cX11_words 18 = .ok (.ireturn, 1) := by decide +kernel
theorem dX11_shorter_0 : decode cX11_shorter 0 = .ok (.aload_n 0, 1) := by decide +kernel
theorem dX11_shorter_1 : decode cX11_shorter 1 = .ok (.iload_n 1, 1) := by decide +kernel
theorem dX11_shorter_2 : decode cX11_shorter 2 = .ok (.invokevirtual 126, 3) := by decide +kernel
theorem dX11_shorter_5 : decode cX11_shorter 5 = .ok (.astore_n 2, 1) := by decide +kernel
theorem dX11_shorter_6 : decode cX11_shorter 6 = .ok (.aload_n 2, 1) := by decide +kernel
theorem dX11_shorter_7 : decode cX11_shorter 7 = .ok (.ifnull 12, 3) := by decide +kernel
theorem dX11_shorter_10 : decode cX11_shorter 10 = .ok (.aload_n 0, 1) := by decide +kernel
theorem dX11_shorter_11 : decode cX11_shorter 11 = .ok (.getfield 116, 3) := by decide +kernel
theorem dX11_shorter_14 : decode cX11_shorter 14 = .ok (.bipush 20, 2) := by decide +kernel
theorem dX11_shorter_16 : decode cX11_shorter 16 = .ok (.if_icmp .lt 5, 3) := by decide +kernel
theorem dX11_shorter_19 : decode cX11_shorter 19 = .ok (.iconst (-1), 1) := by decide +kernel
theorem dX11_shorter_20 : decode cX11_shorter 20 = .ok (.ireturn, 1) := by decide +kernel
theorem dX11_shorter_21 : decode cX11_shorter 21 = .ok (.aload_n 0, 1) := by decide +kernel
theorem dX11_shorter_22 : decode cX11_shorter 22 = .ok (.getfield 65, 3) := by decide +kernel
theorem dX11_shorter_25 : decode cX11_shorter 25 = .ok (.aload_n 2, 1) := by decide +kernel
theorem dX11_shorter_26 : decode cX11_shorter 26 = .ok (.aload_n 0, 1) := by decide +kernel
theorem dX11_shorter_27 : decode cX11_shorter 27 = .ok (.getfield 37, 3) := by decide +kernel
theorem dX11_shorter_30 : decode cX11_shorter 30 = .ok (.invokevirtual 134, 3) := by decide +kernel
theorem dX11_shorter_33 : decode cX11_shorter 33 = .ok (.aload_n 0, 1) := by decide +kernel
theorem dX11_shorter_34 : decode cX11_shorter 34 = .ok (.invokevirtual 123, 3) := by decide +kernel
theorem dX11_shorter_37 : decode cX11_shorter 37 = .ok (.ireturn, 1) := by decide +kernel
theorem dX11_same_0 : decode cX11_same 0 = .ok (.aload_n 0, 1) := by decide +kernel
theorem dX11_same_1 : decode cX11_same 1 = .ok (.iload_n 1, 1) := by decide +kernel
theorem dX11_same_2 : decode cX11_same 2 = .ok (.invokevirtual 126, 3) := by decide +kernel
theorem dX11_same_5 : decode cX11_same 5 = .ok (.astore_n 3, 1) := by decide +kernel
theorem dX11_same_6 : decode cX11_same 6 = .ok (.aload_n 0, 1) := by decide +kernel
theorem dX11_same_7 : decode cX11_same 7 = .ok (.iload_n 2, 1) := by decide +kernel
theorem dX11_same_8 : decode cX11_same 8 = .ok (.invokevirtual 126, 3) := by decide +kernel
theorem dX11_same_11 : decode cX11_same 11 = .ok (.astore 4, 2) := by decide +kernel
theorem dX11_same_13 : decode cX11_same 13 = .ok (.aload_n 3, 1) := by decide +kernel
theorem dX11_same_14 : decode cX11_same 14 = .ok (.ifnull 8, 3) := by decide +kernel
theorem dX11_same_17 : decode cX11_same 17 = .ok (.aload 4, 2) := by decide +kernel
theorem dX11_same_19 : decode cX11_same 19 = .ok (.ifnonnull 5, 3) := by decide +kernel
theorem dX11_same_22 : decode cX11_same 22 = .ok (.iconst (-1), 1) := by decide +kernel
theorem dX11_same_23 : decode cX11_same 23 = .ok (.ireturn, 1) := by decide +kernel
theorem dX11_same_24 : decode cX11_same 24 = .ok (.aload_n 0, 1) := by decide +kernel
theorem dX11_same_25 : decode cX11_same 25 = .ok (.getfield 65, 3) := by decide +kernel
theorem dX11_same_28 : decode cX11_same 28 = .ok (.aload_n 3, 1) := by decide +kernel
theorem dX11_same_29 : decode cX11_same 29 = .ok (.aload_n 0, 1) := by decide +kernel
theorem dX11_same_30 : decode cX11_same 30 = .ok (.getfield 37, 3) := by decide +kernel
theorem dX11_same_33 : decode cX11_same 33 = .ok (.invokevirtual 134, 3) := by decide +kernel
theorem dX11_same_36 : decode cX11_same 36 = .ok (.aload_n 0, 1) := by decide +kernel
theorem dX11_same_37 : decode cX11_same 37 = .ok (.getfield 65, 3) := by decide +kernel
theorem dX11_same_40 : decode cX11_same 40 = .ok (.aload 4, 2) := by decide +kernel
theorem dX11_same_42 : decode cX11_same 42 = .ok (.aload_n 0, 1) := by decide +kernel
theorem dX11_same_43 : decode cX11_same 43 = .ok (.getfield 41, 3) := by decide +kernel
theorem dX11_same_46 : decode cX11_same 46 = .ok (.invokevirtual 134, 3) := by decide +kernel
theorem dX11_same_49 : decode cX11_same 49 = .ok (.aload_n 0, 1) := by decide +kernel
theorem dX11_same_50 : decode cX11_same 50 = .ok (.getfield 65, 3) := by decide +kernel
theorem dX11_same_53 : decode cX11_same 53 = .ok (.aload_n 0, 1) := by decide +kernel
theorem dX11_same_54 : decode cX11_same 54 = .ok (.getfield 37, 3) := by decide +kernel
theorem dX11_same_57 : decode cX11_same 57 = .ok (.aload_n 0, 1) := by decide +kernel
theorem dX11_same_58 : decode cX11_same 58 = .ok (.getfield 41, 3) := by decide +kernel
theorem dX11_same_61 : decode cX11_same 61 = .ok (.invokevirtual 138, 3) := by decide +kernel
theorem dX11_same_64 : decode cX11_same 64 = .ok (.ifCond .eq 7, 3) := by decide +kernel
theorem dX11_same_67 : decode cX11_same 67 = .ok (.iconst 1, 1) := by decide +kernel
theorem dX11_same_68 : decode cX11_same 68 = .ok (.goto 4, 3) := by decide +kernel
theorem dX11_same_71 : decode cX11_same 71 = .ok (.iconst 0, 1) := by decide +kernel
theorem dX11_same_72 : decode cX11_same 72 = .ok (.ireturn, 1) := by decide +kernel
theorem dX11_tell_0 : decode cX11_tell 0 = .ok (.aload_n 0, 1) := by decide +kernel
theorem dX11_tell_1 : decode cX11_tell 1 = .ok (.iload_n 1, 1) := by decide +kernel
theorem dX11_tell_2 : decode cX11_tell 2 = .ok (.invokevirtual 126, 3) := by decide +kernel
theorem dX11_tell_5 : decode cX11_tell 5 = .ok (.astore_n 2, 1) := by decide +kernel
theorem dX11_tell_6 : decode cX11_tell 6 = .ok (.aload_n 2, 1) := by decide +kernel
theorem dX11_tell_7 : decode cX11_tell 7 = .ok (.ifnonnull 5, 3) := by decide +kernel
theorem dX11_tell_10 : decode cX11_tell 10 = .ok (.iconst (-1), 1) := by decide +kernel
theorem dX11_tell_11 : decode cX11_tell 11 = .ok (.ireturn, 1) := by decide +kernel
theorem dX11_tell_12 : decode cX11_tell 12 = .ok (.aload_n 0, 1) := by decide +kernel
theorem dX11_tell_13 : decode cX11_tell 13 = .ok (.getfield 58, 3) := by decide +kernel
theorem dX11_tell_16 : decode cX11_tell 16 = .ok (.aload_n 2, 1) := by decide +kernel
theorem dX11_tell_17 : decode cX11_tell 17 = .ok (.invokevirtual 142, 3) := by decide +kernel
theorem dX11_tell_20 : decode cX11_tell 20 = .ok (.aload_n 0, 1) := by decide +kernel
theorem dX11_tell_21 : decode cX11_tell 21 = .ok (.getfield 25, 3) := by decide +kernel
theorem dX11_tell_24 : decode cX11_tell 24 = .ok (.invokevirtual 106, 3) := by decide +kernel
theorem dX11_tell_27 : decode cX11_tell 27 = .ok (.ireturn, 1) := by decide +kernel
theorem dX11_octet_0 : decode cX11_octet 0 = .ok (.aload_n 0, 1) := by decide +kernel
theorem dX11_octet_1 : decode cX11_octet 1 = .ok (.getfield 25, 3) := by decide +kernel
theorem dX11_octet_4 : decode cX11_octet 4 = .ok (.iload_n 1, 1) := by decide +kernel
theorem dX11_octet_5 : decode cX11_octet 5 = .ok (.invokevirtual 145, 3) := by decide +kernel
theorem dX11_octet_8 : decode cX11_octet 8 = .ok (.ireturn, 1) := by decide +kernel
theorem dX11_begin_0 : decode cX11_begin 0 = .ok (.aload_n 0, 1) := by decide +kernel
theorem dX11_begin_1 : decode cX11_begin 1 = .ok (.iload_n 1, 1) := by decide +kernel
theorem dX11_begin_2 : decode cX11_begin 2 = .ok (.invokevirtual 126, 3) := by decide +kernel
theorem dX11_begin_5 : decode cX11_begin 5 = .ok (.astore 4, 2) := by decide +kernel
theorem dX11_begin_7 : decode cX11_begin 7 = .ok (.aload 4, 2) := by decide +kernel
theorem dX11_begin_9 : decode cX11_begin 9 = .ok (.ifnull 22, 3) := by decide +kernel
theorem dX11_begin_12 : decode cX11_begin 12 = .ok (.iload_n 2, 1) := by decide +kernel
theorem dX11_begin_13 : decode cX11_begin 13 = .ok (.invokestatic 149, 3) := by decide +kernel
theorem dX11_begin_16 : decode cX11_begin 16 = .ok (.ifCond .eq 15, 3) := by decide +kernel
theorem dX11_begin_19 : decode cX11_begin 19 = .ok (.iload_n 3, 1) := by decide +kernel
theorem dX11_begin_20 : decode cX11_begin 20 = .ok (.invokestatic 149, 3) := by decide +kernel
theorem dX11_begin_23 : decode cX11_begin 23 = .ok (.ifCond .eq 8, 3) := by decide +kernel
theorem dX11_begin_26 : decode cX11_begin 26 = .ok (.iload_n 2, 1) := by decide +kernel
theorem dX11_begin_27 : decode cX11_begin 27 = .ok (.iload_n 3, 1) := by decide +kernel
theorem dX11_begin_28 : decode cX11_begin 28 = .ok (.if_icmp .ne 5, 3) := by decide +kernel
theorem dX11_begin_31 : decode cX11_begin 31 = .ok (.iconst (-1), 1) := by decide +kernel
theorem dX11_begin_32 : decode cX11_begin 32 = .ok (.ireturn, 1) := by decide +kernel
theorem dX11_begin_33 : decode cX11_begin 33 = .ok (.aload_n 0, 1) := by decide +kernel
theorem dX11_begin_34 : decode cX11_begin 34 = .ok (.getfield 85, 3) := by decide +kernel
theorem dX11_begin_37 : decode cX11_begin 37 = .ok (.aload 4, 2) := by decide +kernel
theorem dX11_begin_39 : decode cX11_begin 39 = .ok (.iload_n 2, 1) := by decide +kernel
theorem dX11_begin_40 : decode cX11_begin 40 = .ok (.iload_n 3, 1) := by decide +kernel
theorem dX11_begin_41 : decode cX11_begin 41 = .ok (.invokevirtual 153, 3) := by decide +kernel
theorem dX11_begin_44 : decode cX11_begin 44 = .ok (.ireturn, 1) := by decide +kernel
theorem dX11_day_0 : decode cX11_day 0 = .ok (.aload_n 0, 1) := by decide +kernel
theorem dX11_day_1 : decode cX11_day 1 = .ok (.getfield 12, 3) := by decide +kernel
theorem dX11_day_4 : decode cX11_day 4 = .ok (.invokevirtual 157, 3) := by decide +kernel
theorem dX11_day_7 : decode cX11_day 7 = .ok (.ifCond .ne 5, 3) := by decide +kernel
theorem dX11_day_10 : decode cX11_day 10 = .ok (.iconst (-1), 1) := by decide +kernel
theorem dX11_day_11 : decode cX11_day 11 = .ok (.ireturn, 1) := by decide +kernel
theorem dX11_day_12 : decode cX11_day 12 = .ok (.aload_n 0, 1) := by decide +kernel
theorem dX11_day_13 : decode cX11_day 13 = .ok (.getfield 72, 3) := by decide +kernel
theorem dX11_day_16 : decode cX11_day 16 = .ok (.invokevirtual 161, 3) := by decide +kernel
theorem dX11_day_19 : decode cX11_day 19 = .ok (.istore_n 1, 1) := by decide +kernel
theorem dX11_day_20 : decode cX11_day 20 = .ok (.iconst 0, 1) := by decide +kernel
theorem dX11_day_21 : decode cX11_day 21 = .ok (.istore_n 2, 1) := by decide +kernel
theorem dX11_day_22 : decode cX11_day 22 = .ok (.iload_n 2, 1) := by decide +kernel
theorem dX11_day_23 : decode cX11_day 23 = .ok (.bipush 40, 2) := by decide +kernel
theorem dX11_day_25 : decode cX11_day 25 = .ok (.if_icmp .ge 24, 3) := by decide +kernel
theorem dX11_day_28 : decode cX11_day 28 = .ok (.aload_n 0, 1) := by decide +kernel
theorem dX11_day_29 : decode cX11_day 29 = .ok (.getfield 85, 3) := by decide +kernel
theorem dX11_day_32 : decode cX11_day 32 = .ok (.aload_n 0, 1) := by decide +kernel
theorem dX11_day_33 : decode cX11_day 33 = .ok (.getfield 85, 3) := by decide +kernel
theorem dX11_day_36 : decode cX11_day 36 = .ok (.iload_n 2, 1) := by decide +kernel
theorem dX11_day_37 : decode cX11_day 37 = .ok (.invokevirtual 162, 3) := by decide +kernel
theorem dX11_day_40 : decode cX11_day 40 = .ok (.invokevirtual 166, 3) := by decide +kernel
theorem dX11_day_43 : decode cX11_day 43 = .ok (.iinc 2 1, 3) := by decide +kernel
theorem dX11_day_46 : decode cX11_day 46 = .ok (.goto (-24), 3) := by decide +kernel
theorem dX11_day_49 : decode cX11_day 49 = .ok (.aload_n 0, 1) := by decide +kernel
theorem dX11_day_50 : decode cX11_day 50 = .ok (.getfield 72, 3) := by decide +kernel
theorem dX11_day_53 : decode cX11_day 53 = .ok (.invokevirtual 161, 3) := by decide +kernel
theorem dX11_day_56 : decode cX11_day 56 = .ok (.iload_n 1, 1) := by decide +kernel
theorem dX11_day_57 : decode cX11_day 57 = .ok (.isub, 1) := by decide +kernel
theorem dX11_day_58 : decode cX11_day 58 = .ok (.ireturn, 1) := by decide +kernel
theorem dX11_stands_0 : decode cX11_stands 0 = .ok (.aload_n 0, 1) := by decide +kernel
theorem dX11_stands_1 : decode cX11_stands 1 = .ok (.getfield 85, 3) := by decide +kernel
theorem dX11_stands_4 : decode cX11_stands 4 = .ok (.iload_n 1, 1) := by decide +kernel
theorem dX11_stands_5 : decode cX11_stands 5 = .ok (.invokevirtual 162, 3) := by decide +kernel
theorem dX11_stands_8 : decode cX11_stands 8 = .ok (.astore_n 2, 1) := by decide +kernel
theorem dX11_stands_9 : decode cX11_stands 9 = .ok (.aload_n 2, 1) := by decide +kernel
theorem dX11_stands_10 : decode cX11_stands 10 = .ok (.ifnonnull 7, 3) := by decide +kernel
theorem dX11_stands_13 : decode cX11_stands 13 = .ok (.iconst (-1), 1) := by decide +kernel
theorem dX11_stands_14 : decode cX11_stands 14 = .ok (.goto 7, 3) := by decide +kernel
theorem dX11_stands_17 : decode cX11_stands 17 = .ok (.aload_n 2, 1) := by decide +kernel
theorem dX11_stands_18 : decode cX11_stands 18 = .ok (.invokevirtual 170, 3) := by decide +kernel
theorem dX11_stands_21 : decode cX11_stands 21 = .ok (.ireturn, 1) := by decide +kernel
theorem dX11_standing_0 : decode cX11_standing 0 = .ok (.aload_n 0, 1) := by decide +kernel
theorem dX11_standing_1 : decode cX11_standing 1 = .ok (.getfield 85, 3) := by decide +kernel
theorem dX11_standing_4 : decode cX11_standing 4 = .ok (.iload_n 1, 1) := by decide +kernel
theorem dX11_standing_5 : decode cX11_standing 5 = .ok (.invokevirtual 162, 3) := by decide +kernel
theorem dX11_standing_8 : decode cX11_standing 8 = .ok (.astore 4, 2) := by decide +kernel
theorem dX11_standing_10 : decode cX11_standing 10 = .ok (.aload 4, 2) := by decide +kernel
theorem dX11_standing_12 : decode cX11_standing 12 = .ok (.ifnonnull 7, 3) := by decide +kernel
theorem dX11_standing_15 : decode cX11_standing 15 = .ok (.iconst (-1), 1) := by decide +kernel
theorem dX11_standing_16 : decode cX11_standing 16 = .ok (.goto 17, 3) := by decide +kernel
theorem dX11_standing_19 : decode cX11_standing 19 = .ok (.aload 4, 2) := by decide +kernel
theorem dX11_standing_21 : decode cX11_standing 21 = .ok (.iload_n 2, 1) := by decide +kernel
theorem dX11_standing_22 : decode cX11_standing 22 = .ok (.iload_n 3, 1) := by decide +kernel
theorem dX11_standing_23 : decode cX11_standing 23 = .ok (.aload_n 0, 1) := by decide +kernel
theorem dX11_standing_24 : decode cX11_standing 24 = .ok (.getfield 12, 3) := by decide +kernel
theorem dX11_standing_27 : decode cX11_standing 27 = .ok (.getfield 78, 3) := by decide +kernel
theorem dX11_standing_30 : decode cX11_standing 30 = .ok (.invokevirtual 173, 3) := by decide +kernel
theorem dX11_standing_33 : decode cX11_standing 33 = .ok (.ireturn, 1) := by decide +kernel
theorem dX11_choose_0 : decode cX11_choose 0 = .ok (.iload 4, 2) := by decide +kernel
theorem dX11_choose_2 : decode cX11_choose 2 = .ok (.ifCond .eq 11, 3) := by decide +kernel
theorem dX11_choose_5 : decode cX11_choose 5 = .ok (.iload 4, 2) := by decide +kernel
theorem dX11_choose_7 : decode cX11_choose 7 = .ok (.iconst 1, 1) := by decide +kernel
theorem dX11_choose_8 : decode cX11_choose 8 = .ok (.if_icmp .eq 5, 3) := by decide +kernel
theorem dX11_choose_11 : decode cX11_choose 11 = .ok (.iconst (-1), 1) := by decide +kernel
theorem dX11_choose_12 : decode cX11_choose 12 = .ok (.ireturn, 1) := by decide +kernel
theorem dX11_choose_13 : decode cX11_choose 13 = .ok (.aload_n 0, 1) := by decide +kernel
theorem dX11_choose_14 : decode cX11_choose 14 = .ok (.getfield 85, 3) := by decide +kernel
theorem dX11_choose_17 : decode cX11_choose 17 = .ok (.iload_n 1, 1) := by decide +kernel
theorem dX11_choose_18 : decode cX11_choose 18 = .ok (.iload_n 2, 1) := by decide +kernel
theorem dX11_choose_19 : decode cX11_choose 19 = .ok (.iload_n 3, 1) := by decide +kernel
theorem dX11_choose_20 : decode cX11_choose 20 = .ok (.iconst 4, 1) := by decide +kernel
theorem dX11_choose_21 : decode cX11_choose 21 = .ok (.iload 4, 2) := by decide +kernel
theorem dX11_choose_23 : decode cX11_choose 23 = .ok (.invokevirtual 177, 3) := by decide +kernel
theorem dX11_choose_26 : decode cX11_choose 26 = .ok (.ireturn, 1) := by decide +kernel
theorem dX11_take_0 : decode cX11_take 0 = .ok (.aload_n 0, 1) := by decide +kernel
theorem dX11_take_1 : decode cX11_take 1 = .ok (.getfield 85, 3) := by decide +kernel
theorem dX11_take_4 : decode cX11_take 4 = .ok (.iload_n 1, 1) := by decide +kernel
theorem dX11_take_5 : decode cX11_take 5 = .ok (.iload_n 2, 1) := by decide +kernel
theorem dX11_take_6 : decode cX11_take 6 = .ok (.iload_n 3, 1) := by decide +kernel
theorem dX11_take_7 : decode cX11_take 7 = .ok (.bipush 7, 2) := by decide +kernel
theorem dX11_take_9 : decode cX11_take 9 = .ok (.iconst 0, 1) := by decide +kernel
theorem dX11_take_10 : decode cX11_take 10 = .ok (.invokevirtual 177, 3) := by decide +kernel
theorem dX11_take_13 : decode cX11_take 13 = .ok (.ireturn, 1) := by decide +kernel
theorem dX11_payment_0 : decode cX11_payment 0 = .ok (.iload_n 2, 1) := by decide +kernel
theorem dX11_payment_1 : decode cX11_payment 1 = .ok (.ifCond .lt 8, 3) := by decide +kernel
theorem dX11_payment_4 : decode cX11_payment 4 = .ok (.iload_n 2, 1) := by decide +kernel
theorem dX11_payment_5 : decode cX11_payment 5 = .ok (.iconst 3, 1) := by decide +kernel
theorem dX11_payment_6 : decode cX11_payment 6 = .ok (.if_icmp .le 6, 3) := by decide +kernel
theorem dX11_payment_9 : decode cX11_payment 9 = .ok (.ldc 181, 2) := by decide +kernel
theorem dX11_payment_11 : decode cX11_payment 11 = .ok (.ireturn, 1) := by decide +kernel
theorem dX11_payment_12 : decode cX11_payment 12 = .ok (.aload_n 0, 1) := by decide +kernel
theorem dX11_payment_13 : decode cX11_payment 13 = .ok (.getfield 72, 3) := by decide +kernel
theorem dX11_payment_16 : decode cX11_payment 16 = .ok (.iload_n 1, 1) := by decide +kernel
theorem dX11_payment_17 : decode cX11_payment 17 = .ok (.iload_n 2, 1) := by decide +kernel
theorem dX11_payment_18 : decode cX11_payment 18 = .ok (.invokevirtual 182, 3) := by decide +kernel
theorem dX11_payment_21 : decode cX11_payment 21 = .ok (.ireturn, 1) := by decide +kernel
theorem dX11_got_0 : decode cX11_got 0 = .ok (.aload_n 0, 1) := by decide +kernel
theorem dX11_got_1 : decode cX11_got 1 = .ok (.getfield 85, 3) := by decide +kernel
theorem dX11_got_4 : decode cX11_got 4 = .ok (.iload_n 1, 1) := by decide +kernel
theorem dX11_got_5 : decode cX11_got 5 = .ok (.invokevirtual 162, 3) := by decide +kernel
theorem dX11_got_8 : decode cX11_got 8 = .ok (.astore_n 2, 1) := by decide +kernel
theorem dX11_got_9 : decode cX11_got 9 = .ok (.aload_n 2, 1) := by decide +kernel
theorem dX11_got_10 : decode cX11_got 10 = .ok (.ifnonnull 7, 3) := by decide +kernel
theorem dX11_got_13 : decode cX11_got 13 = .ok (.lconst 0, 1) := by decide +kernel
theorem dX11_got_14 : decode cX11_got 14 = .ok (.goto 7, 3) := by decide +kernel
theorem dX11_got_17 : decode cX11_got 17 = .ok (.aload_n 2, 1) := by decide +kernel
theorem dX11_got_18 : decode cX11_got 18 = .ok (.getfield 185, 3) := by decide +kernel
theorem dX11_got_21 : decode cX11_got 21 = .ok (.lreturn, 1) := by decide +kernel
theorem dX11_net_0 : decode cX11_net 0 = .ok (.iload_n 1, 1) := by decide +kernel
theorem dX11_net_1 : decode cX11_net 1 = .ok (.ifCond .lt 10, 3) := by decide +kernel
theorem dX11_net_4 : decode cX11_net 4 = .ok (.iload_n 1, 1) := by decide +kernel
theorem dX11_net_5 : decode cX11_net 5 = .ok (.sipush 400, 3) := by decide +kernel
theorem dX11_net_8 : decode cX11_net 8 = .ok (.if_icmp .lt 5, 3) := by decide +kernel
theorem dX11_net_11 : decode cX11_net 11 = .ok (.iconst (-1), 1) := by decide +kernel
theorem dX11_net_12 : decode cX11_net 12 = .ok (.ireturn, 1) := by decide +kernel
theorem dX11_net_13 : decode cX11_net 13 = .ok (.aload_n 0, 1) := by decide +kernel
theorem dX11_net_14 : decode cX11_net 14 = .ok (.getfield 72, 3) := by decide +kernel
theorem dX11_net_17 : decode cX11_net 17 = .ok (.iload_n 1, 1) := by decide +kernel
theorem dX11_net_18 : decode cX11_net 18 = .ok (.invokevirtual 189, 3) := by decide +kernel
theorem dX11_net_21 : decode cX11_net 21 = .ok (.ireturn, 1) := by decide +kernel
theorem dX11_netted_0 : decode cX11_netted 0 = .ok (.aload_n 0, 1) := by decide +kernel
theorem dX11_netted_1 : decode cX11_netted 1 = .ok (.getfield 72, 3) := by decide +kernel
theorem dX11_netted_4 : decode cX11_netted 4 = .ok (.iload_n 1, 1) := by decide +kernel
theorem dX11_netted_5 : decode cX11_netted 5 = .ok (.iload_n 2, 1) := by decide +kernel
theorem dX11_netted_6 : decode cX11_netted 6 = .ok (.invokevirtual 192, 3) := by decide +kernel
theorem dX11_netted_9 : decode cX11_netted 9 = .ok (.lreturn, 1) := by decide +kernel
theorem dX11_ways_0 : decode cX11_ways 0 = .ok (.iload_n 1, 1) := by decide +kernel
theorem dX11_ways_1 : decode cX11_ways 1 = .ok (.iconst 1, 1) := by decide +kernel
theorem dX11_ways_2 : decode cX11_ways 2 = .ok (.if_icmp .lt 8, 3) := by decide +kernel
theorem dX11_ways_5 : decode cX11_ways 5 = .ok (.iload_n 1, 1) := by decide +kernel
theorem dX11_ways_6 : decode cX11_ways 6 = .ok (.iconst 3, 1) := by decide +kernel
theorem dX11_ways_7 : decode cX11_ways 7 = .ok (.if_icmp .le 5, 3) := by decide +kernel
theorem dX11_ways_10 : decode cX11_ways 10 = .ok (.iconst 0, 1) := by decide +kernel
theorem dX11_ways_11 : decode cX11_ways 11 = .ok (.ireturn, 1) := by decide +kernel
theorem dX11_ways_12 : decode cX11_ways 12 = .ok (.aload_n 0, 1) := by decide +kernel
theorem dX11_ways_13 : decode cX11_ways 13 = .ok (.getfield 94, 3) := by decide +kernel
theorem dX11_ways_16 : decode cX11_ways 16 = .ok (.iload_n 1, 1) := by decide +kernel
theorem dX11_ways_17 : decode cX11_ways 17 = .ok (.invokevirtual 196, 3) := by decide +kernel
theorem dX11_ways_20 : decode cX11_ways 20 = .ok (.iconst 1, 1) := by decide +kernel
theorem dX11_ways_21 : decode cX11_ways 21 = .ok (.ireturn, 1) := by decide +kernel
theorem dX11_weight_0 : decode cX11_weight 0 = .ok (.aload_n 0, 1) := by decide +kernel
theorem dX11_weight_1 : decode cX11_weight 1 = .ok (.getfield 94, 3) := by decide +kernel
theorem dX11_weight_4 : decode cX11_weight 4 = .ok (.iload_n 1, 1) := by decide +kernel
theorem dX11_weight_5 : decode cX11_weight 5 = .ok (.iload_n 2, 1) := by decide +kernel
theorem dX11_weight_6 : decode cX11_weight 6 = .ok (.invokevirtual 199, 3) := by decide +kernel
theorem dX11_weight_9 : decode cX11_weight 9 = .ok (.ireturn, 1) := by decide +kernel
theorem dX11_adds_0 : decode cX11_adds 0 = .ok (.aload_n 0, 1) := by decide +kernel
theorem dX11_adds_1 : decode cX11_adds 1 = .ok (.getfield 94, 3) := by decide +kernel
theorem dX11_adds_4 : decode cX11_adds 4 = .ok (.iload_n 1, 1) := by decide +kernel
theorem dX11_adds_5 : decode cX11_adds 5 = .ok (.iload_n 2, 1) := by decide +kernel
theorem dX11_adds_6 : decode cX11_adds 6 = .ok (.iload_n 3, 1) := by decide +kernel
theorem dX11_adds_7 : decode cX11_adds 7 = .ok (.invokevirtual 203, 3) := by decide +kernel
theorem dX11_adds_10 : decode cX11_adds 10 = .ok (.ireturn, 1) := by decide +kernel
theorem dX11_worth_0 : decode cX11_worth 0 = .ok (.aload_n 0, 1) := by decide +kernel
theorem dX11_worth_1 : decode cX11_worth 1 = .ok (.iload_n 1, 1) := by decide +kernel
theorem dX11_worth_2 : decode cX11_worth 2 = .ok (.invokevirtual 126, 3) := by decide +kernel
theorem dX11_worth_5 : decode cX11_worth 5 = .ok (.astore 4, 2) := by decide +kernel
theorem dX11_worth_7 : decode cX11_worth 7 = .ok (.aload 4, 2) := by decide +kernel
theorem dX11_worth_9 : decode cX11_worth 9 = .ok (.ifnull 19, 3) := by decide +kernel
theorem dX11_worth_12 : decode cX11_worth 12 = .ok (.iload_n 2, 1) := by decide +kernel
theorem dX11_worth_13 : decode cX11_worth 13 = .ok (.invokestatic 206, 3) := by decide +kernel
theorem dX11_worth_16 : decode cX11_worth 16 = .ok (.ifCond .eq 12, 3) := by decide +kernel
theorem dX11_worth_19 : decode cX11_worth 19 = .ok (.iload_n 3, 1) := by decide +kernel
theorem dX11_worth_20 : decode cX11_worth 20 = .ok (.ifCond .lt 8, 3) := by decide +kernel
theorem dX11_worth_23 : decode cX11_worth 23 = .ok (.iload_n 3, 1) := by decide +kernel
theorem dX11_worth_24 : decode cX11_worth 24 = .ok (.iconst 3, 1) := by decide +kernel
theorem dX11_worth_25 : decode cX11_worth 25 = .ok (.if_icmp .le 7, 3) := by decide +kernel
theorem dX11_worth_28 : decode cX11_worth 28 = .ok (.ldc2_w 209, 3) := by decide +kernel
theorem dX11_worth_31 : decode cX11_worth 31 = .ok (.lreturn, 1) := by decide +kernel
theorem dX11_worth_32 : decode cX11_worth 32 = .ok (.iload_n 3, 1) := by decide +kernel
theorem dX11_worth_33 : decode cX11_worth 33 = .ok (.iconst 3, 1) := by decide +kernel
theorem dX11_worth_34 : decode cX11_worth 34 = .ok (.if_icmp .ne 14, 3) := by decide +kernel
theorem dX11_worth_37 : decode cX11_worth 37 = .ok (.aload_n 0, 1) := by decide +kernel
theorem dX11_worth_38 : decode cX11_worth 38 = .ok (.getfield 94, 3) := by decide +kernel
theorem dX11_worth_41 : decode cX11_worth 41 = .ok (.iload_n 2, 1) := by decide +kernel
theorem dX11_worth_42 : decode cX11_worth 42 = .ok (.invokevirtual 211, 3) := by decide +kernel
theorem dX11_worth_45 : decode cX11_worth 45 = .ok (.goto 14, 3) := by decide +kernel
theorem dX11_worth_48 : decode cX11_worth 48 = .ok (.aload_n 0, 1) := by decide +kernel
theorem dX11_worth_49 : decode cX11_worth 49 = .ok (.getfield 94, 3) := by decide +kernel
theorem dX11_worth_52 : decode cX11_worth 52 = .ok (.aload 4, 2) := by decide +kernel
theorem dX11_worth_54 : decode cX11_worth 54 = .ok (.iload_n 2, 1) := by decide +kernel
theorem dX11_worth_55 : decode cX11_worth 55 = .ok (.iload_n 3, 1) := by decide +kernel
theorem dX11_worth_56 : decode cX11_worth 56 = .ok (.invokevirtual 215, 3) := by decide +kernel
theorem dX11_worth_59 : decode cX11_worth 59 = .ok (.lreturn, 1) := by decide +kernel
theorem dX11_comeTo_0 : decode cX11_comeTo 0 = .ok (.aload_n 0, 1) := by decide +kernel
theorem dX11_comeTo_1 : decode cX11_comeTo 1 = .ok (.iload_n 1, 1) := by decide +kernel
theorem dX11_comeTo_2 : decode cX11_comeTo 2 = .ok (.invokevirtual 126, 3) := by decide +kernel
theorem dX11_comeTo_5 : decode cX11_comeTo 5 = .ok (.astore 4, 2) := by decide +kernel
theorem dX11_comeTo_7 : decode cX11_comeTo 7 = .ok (.aload 4, 2) := by decide +kernel
theorem dX11_comeTo_9 : decode cX11_comeTo 9 = .ok (.ifnull 23, 3) := by decide +kernel
theorem dX11_comeTo_12 : decode cX11_comeTo 12 = .ok (.iload_n 2, 1) := by decide +kernel
theorem dX11_comeTo_13 : decode cX11_comeTo 13 = .ok (.invokestatic 206, 3) := by decide +kernel
theorem dX11_comeTo_16 : decode cX11_comeTo 16 = .ok (.ifCond .eq 16, 3) := by decide +kernel
theorem dX11_comeTo_19 : decode cX11_comeTo 19 = .ok (.iload_n 3, 1) := by decide +kernel
theorem dX11_comeTo_20 : decode cX11_comeTo 20 = .ok (.ifCond .lt 12, 3) := by decide +kernel
theorem dX11_comeTo_23 : decode cX11_comeTo 23 = .ok (.iload_n 3, 1) := by decide +kernel
theorem dX11_comeTo_24 : decode cX11_comeTo 24 = .ok (.aload 4, 2) := by decide +kernel
theorem dX11_comeTo_26 : decode cX11_comeTo 26 = .ok (.invokevirtual 133, 3) := by decide +kernel
theorem dX11_comeTo_29 : decode cX11_comeTo 29 = .ok (.if_icmp .lt 5, 3) := by decide +kernel
theorem dX11_comeTo_32 : decode cX11_comeTo 32 = .ok (.iconst (-1), 1) := by decide +kernel
theorem dX11_comeTo_33 : decode cX11_comeTo 33 = .ok (.ireturn, 1) := by decide +kernel
theorem dX11_comeTo_34 : decode cX11_comeTo 34 = .ok (.aload_n 0, 1) := by decide +kernel
theorem dX11_comeTo_35 : decode cX11_comeTo 35 = .ok (.getfield 94, 3) := by decide +kernel
theorem dX11_comeTo_38 : decode cX11_comeTo 38 = .ok (.aload 4, 2) := by decide +kernel
theorem dX11_comeTo_40 : decode cX11_comeTo 40 = .ok (.iload_n 2, 1) := by decide +kernel
theorem dX11_comeTo_41 : decode cX11_comeTo 41 = .ok (.iload_n 3, 1) := by decide +kernel
theorem dX11_comeTo_42 : decode cX11_comeTo 42 = .ok (.invokevirtual 219, 3) := by decide +kernel
theorem dX11_comeTo_45 : decode cX11_comeTo 45 = .ok (.ifCond .eq 7, 3) := by decide +kernel
theorem dX11_comeTo_48 : decode cX11_comeTo 48 = .ok (.iconst 1, 1) := by decide +kernel
theorem dX11_comeTo_49 : decode cX11_comeTo 49 = .ok (.goto 4, 3) := by decide +kernel
theorem dX11_comeTo_52 : decode cX11_comeTo 52 = .ok (.iconst 0, 1) := by decide +kernel
theorem dX11_comeTo_53 : decode cX11_comeTo 53 = .ok (.ireturn, 1) := by decide +kernel
theorem dX11_parted_0 : decode cX11_parted 0 = .ok (.aload_n 0, 1) := by decide +kernel
theorem dX11_parted_1 : decode cX11_parted 1 = .ok (.iload_n 1, 1) := by decide +kernel
theorem dX11_parted_2 : decode cX11_parted 2 = .ok (.invokevirtual 126, 3) := by decide +kernel
theorem dX11_parted_5 : decode cX11_parted 5 = .ok (.astore 4, 2) := by decide +kernel
theorem dX11_parted_7 : decode cX11_parted 7 = .ok (.aload_n 0, 1) := by decide +kernel
theorem dX11_parted_8 : decode cX11_parted 8 = .ok (.iload_n 2, 1) := by decide +kernel
theorem dX11_parted_9 : decode cX11_parted 9 = .ok (.invokevirtual 126, 3) := by decide +kernel
theorem dX11_parted_12 : decode cX11_parted 12 = .ok (.astore 5, 2) := by decide +kernel
theorem dX11_parted_14 : decode cX11_parted 14 = .ok (.aload 4, 2) := by decide +kernel
theorem dX11_parted_16 : decode cX11_parted 16 = .ok (.ifnull 31, 3) := by decide +kernel
theorem dX11_parted_19 : decode cX11_parted 19 = .ok (.aload 5, 2) := by decide +kernel
theorem dX11_parted_21 : decode cX11_parted 21 = .ok (.ifnull 26, 3) := by decide +kernel
theorem dX11_parted_24 : decode cX11_parted 24 = .ok (.iload_n 3, 1) := by decide +kernel
theorem dX11_parted_25 : decode cX11_parted 25 = .ok (.invokestatic 206, 3) := by decide +kernel
theorem dX11_parted_28 : decode cX11_parted 28 = .ok (.ifCond .eq 19, 3) := by decide +kernel
theorem dX11_parted_31 : decode cX11_parted 31 = .ok (.aload 4, 2) := by decide +kernel
theorem dX11_parted_33 : decode cX11_parted 33 = .ok (.invokevirtual 223, 3) := by decide +kernel
theorem dX11_parted_36 : decode cX11_parted 36 = .ok (.ifCond .ne 11, 3) := by decide +kernel
theorem dX11_parted_39 : decode cX11_parted 39 = .ok (.aload 5, 2) := by decide +kernel
theorem dX11_parted_41 : decode cX11_parted 41 = .ok (.invokevirtual 223, 3) := by decide +kernel
theorem dX11_parted_44 : decode cX11_parted 44 = .ok (.ifCond .eq 5, 3) := by decide +kernel
theorem dX11_parted_47 : decode cX11_parted 47 = .ok (.iconst (-1), 1) := by decide +kernel
theorem dX11_parted_48 : decode cX11_parted 48 = .ok (.ireturn, 1) := by decide +kernel
theorem dX11_parted_49 : decode cX11_parted 49 = .ok (.aload_n 0, 1) := by decide +kernel
theorem dX11_parted_50 : decode cX11_parted 50 = .ok (.getfield 94, 3) := by decide +kernel
theorem dX11_parted_53 : decode cX11_parted 53 = .ok (.aload 4, 2) := by decide +kernel
theorem dX11_parted_55 : decode cX11_parted 55 = .ok (.iload_n 3, 1) := by decide +kernel
theorem dX11_parted_56 : decode cX11_parted 56 = .ok (.invokevirtual 226, 3) := by decide +kernel
theorem dX11_parted_59 : decode cX11_parted 59 = .ok (.aload_n 0, 1) := by decide +kernel
theorem dX11_parted_60 : decode cX11_parted 60 = .ok (.getfield 94, 3) := by decide +kernel
theorem dX11_parted_63 : decode cX11_parted 63 = .ok (.aload 4, 2) := by decide +kernel
theorem dX11_parted_65 : decode cX11_parted 65 = .ok (.aload 5, 2) := by decide +kernel
theorem dX11_parted_67 : decode cX11_parted 67 = .ok (.iconst 0, 1) := by decide +kernel
theorem dX11_parted_68 : decode cX11_parted 68 = .ok (.iconst 0, 1) := by decide +kernel
theorem dX11_parted_69 : decode cX11_parted 69 = .ok (.invokevirtual 230, 3) := by decide +kernel
theorem dX11_parted_72 : decode cX11_parted 72 = .ok (.ireturn, 1) := by decide +kernel
theorem dX11_count_0 : decode cX11_count 0 = .ok (.iload_n 1, 1) := by decide +kernel
theorem dX11_count_1 : decode cX11_count 1 = .ok (.tableswitch 111 0 7 #[47, 58, 63, 71, 79, 87, 95, 103], 47) := by decide +kernel
theorem dX11_count_48 : decode cX11_count 48 = .ok (.aload_n 0, 1) := by decide +kernel
theorem dX11_count_49 : decode cX11_count 49 = .ok (.getfield 12, 3) := by decide +kernel
theorem dX11_count_52 : decode cX11_count 52 = .ok (.getfield 78, 3) := by decide +kernel
theorem dX11_count_55 : decode cX11_count 55 = .ok (.getfield 234, 3) := by decide +kernel
theorem dX11_count_58 : decode cX11_count 58 = .ok (.ireturn, 1) := by decide +kernel
theorem dX11_count_59 : decode cX11_count 59 = .ok (.aload_n 0, 1) := by decide +kernel
theorem dX11_count_60 : decode cX11_count 60 = .ok (.getfield 116, 3) := by decide +kernel
theorem dX11_count_63 : decode cX11_count 63 = .ok (.ireturn, 1) := by decide +kernel
theorem dX11_count_64 : decode cX11_count 64 = .ok (.aload_n 0, 1) := by decide +kernel
theorem dX11_count_65 : decode cX11_count 65 = .ok (.getfield 85, 3) := by decide +kernel
theorem dX11_count_68 : decode cX11_count 68 = .ok (.invokevirtual 239, 3) := by decide +kernel
theorem dX11_count_71 : decode cX11_count 71 = .ok (.ireturn, 1) := by decide +kernel
theorem dX11_count_72 : decode cX11_count 72 = .ok (.aload_n 0, 1) := by decide +kernel
theorem dX11_count_73 : decode cX11_count 73 = .ok (.getfield 72, 3) := by decide +kernel
theorem dX11_count_76 : decode cX11_count 76 = .ok (.invokevirtual 161, 3) := by decide +kernel
theorem dX11_count_79 : decode cX11_count 79 = .ok (.ireturn, 1) := by decide +kernel
theorem dX11_count_80 : decode cX11_count 80 = .ok (.aload_n 0, 1) := by decide +kernel
theorem dX11_count_81 : decode cX11_count 81 = .ok (.getfield 21, 3) := by decide +kernel
theorem dX11_count_84 : decode cX11_count 84 = .ok (.invokevirtual 106, 3) := by decide +kernel
theorem dX11_count_87 : decode cX11_count 87 = .ok (.ireturn, 1) := by decide +kernel
theorem dX11_count_88 : decode cX11_count 88 = .ok (.aload_n 0, 1) := by decide +kernel
theorem dX11_count_89 : decode cX11_count 89 = .ok (.getfield 25, 3) := by decide +kernel
theorem dX11_count_92 : decode cX11_count 92 = .ok (.invokevirtual 106, 3) := by decide +kernel
theorem dX11_count_95 : decode cX11_count 95 = .ok (.ireturn, 1) := by decide +kernel
theorem dX11_count_96 : decode cX11_count 96 = .ok (.aload_n 0, 1) := by decide +kernel
theorem dX11_count_97 : decode cX11_count 97 = .ok (.getfield 94, 3) := by decide +kernel
theorem dX11_count_100 : decode cX11_count 100 = .ok (.invokevirtual 240, 3) := by decide +kernel
theorem dX11_count_103 : decode cX11_count 103 = .ok (.ireturn, 1) := by decide +kernel
theorem dX11_count_104 : decode cX11_count 104 = .ok (.aload_n 0, 1) := by decide +kernel
theorem dX11_count_105 : decode cX11_count 105 = .ok (.getfield 72, 3) := by decide +kernel
theorem dX11_count_108 : decode cX11_count 108 = .ok (.getfield 241, 3) := by decide +kernel
theorem dX11_count_111 : decode cX11_count 111 = .ok (.ireturn, 1) := by decide +kernel
theorem dX11_count_112 : decode cX11_count 112 = .ok (.iconst (-1), 1) := by decide +kernel
theorem dX11_count_113 : decode cX11_count 113 = .ok (.ireturn, 1) := by decide +kernel
theorem dX11_formAt_0 : decode cX11_formAt 0 = .ok (.iload_n 1, 1) := by decide +kernel
theorem dX11_formAt_1 : decode cX11_formAt 1 = .ok (.ifCond .lt 26, 3) := by decide +kernel
theorem dX11_formAt_4 : decode cX11_formAt 4 = .ok (.iload_n 1, 1) := by decide +kernel
theorem dX11_formAt_5 : decode cX11_formAt 5 = .ok (.aload_n 0, 1) := by decide +kernel
theorem dX11_formAt_6 : decode cX11_formAt 6 = .ok (.getfield 116, 3) := by decide +kernel
theorem dX11_formAt_9 : decode cX11_formAt 9 = .ok (.if_icmp .ge 18, 3) := by decide +kernel
theorem dX11_formAt_12 : decode cX11_formAt 12 = .ok (.iload_n 1, 1) := by decide +kernel
theorem dX11_formAt_13 : decode cX11_formAt 13 = .ok (.bipush 20, 2) := by decide +kernel
theorem dX11_formAt_15 : decode cX11_formAt 15 = .ok (.if_icmp .ge 12, 3) := by decide +kernel
theorem dX11_formAt_18 : decode cX11_formAt 18 = .ok (.aload_n 0, 1) := by decide +kernel
theorem dX11_formAt_19 : decode cX11_formAt 19 = .ok (.getfield 30, 3) := by decide +kernel
theorem dX11_formAt_22 : decode cX11_formAt 22 = .ok (.iload_n 1, 1) := by decide +kernel
theorem dX11_formAt_23 : decode cX11_formAt 23 = .ok (.aaload, 1) := by decide +kernel
theorem dX11_formAt_24 : decode cX11_formAt 24 = .ok (.goto 4, 3) := by decide +kernel
theorem dX11_formAt_27 : decode cX11_formAt 27 = .ok (.aconst_null, 1) := by decide +kernel
theorem dX11_formAt_28 : decode cX11_formAt 28 = .ok (.areturn, 1) := by decide +kernel
theorem dX11_keepDraft_0 : decode cX11_keepDraft 0 = .ok (.aload_n 0, 1) := by decide +kernel
theorem dX11_keepDraft_1 : decode cX11_keepDraft 1 = .ok (.getfield 116, 3) := by decide +kernel
theorem dX11_keepDraft_4 : decode cX11_keepDraft 4 = .ok (.bipush 20, 2) := by decide +kernel
theorem dX11_keepDraft_6 : decode cX11_keepDraft 6 = .ok (.if_icmp .lt 5, 3) := by decide +kernel
theorem dX11_keepDraft_9 : decode cX11_keepDraft 9 = .ok (.iconst (-1), 1) := by decide +kernel
theorem dX11_keepDraft_10 : decode cX11_keepDraft 10 = .ok (.ireturn, 1) := by decide +kernel
theorem dX11_keepDraft_11 : decode cX11_keepDraft 11 = .ok (.aload_n 0, 1) := by decide +kernel
theorem dX11_keepDraft_12 : decode cX11_keepDraft 12 = .ok (.getfield 30, 3) := by decide +kernel
theorem dX11_keepDraft_15 : decode cX11_keepDraft 15 = .ok (.aload_n 0, 1) := by decide +kernel
theorem dX11_keepDraft_16 : decode cX11_keepDraft 16 = .ok (.getfield 116, 3) := by decide +kernel
theorem dX11_keepDraft_19 : decode cX11_keepDraft 19 = .ok (.aload_n 0, 1) := by decide +kernel
theorem dX11_keepDraft_20 : decode cX11_keepDraft 20 = .ok (.getfield 37, 3) := by decide +kernel
theorem dX11_keepDraft_23 : decode cX11_keepDraft 23 = .ok (.invokevirtual 244, 3) := by decide +kernel
theorem dX11_keepDraft_26 : decode cX11_keepDraft 26 = .ok (.aastore, 1) := by decide +kernel
theorem dX11_keepDraft_27 : decode cX11_keepDraft 27 = .ok (.aload_n 0, 1) := by decide +kernel
theorem dX11_keepDraft_28 : decode cX11_keepDraft 28 = .ok (.dup, 1) := by decide +kernel
theorem dX11_keepDraft_29 : decode cX11_keepDraft 29 = .ok (.getfield 116, 3) := by decide +kernel
theorem dX11_keepDraft_32 : decode cX11_keepDraft 32 = .ok (.iconst 1, 1) := by decide +kernel
theorem dX11_keepDraft_33 : decode cX11_keepDraft 33 = .ok (.iadd, 1) := by decide +kernel
theorem dX11_keepDraft_34 : decode cX11_keepDraft 34 = .ok (.putfield 116, 3) := by decide +kernel
theorem dX11_keepDraft_37 : decode cX11_keepDraft 37 = .ok (.aload_n 0, 1) := by decide +kernel
theorem dX11_keepDraft_38 : decode cX11_keepDraft 38 = .ok (.getfield 116, 3) := by decide +kernel
theorem dX11_keepDraft_41 : decode cX11_keepDraft 41 = .ok (.iconst 1, 1) := by decide +kernel
theorem dX11_keepDraft_42 : decode cX11_keepDraft 42 = .ok (.isub, 1) := by decide +kernel
theorem dX11_keepDraft_43 : decode cX11_keepDraft 43 = .ok (.ireturn, 1) := by decide +kernel
theorem dX11_isHouse_0 : decode cX11_isHouse 0 = .ok (.iload_n 0, 1) := by decide +kernel
theorem dX11_isHouse_1 : decode cX11_isHouse 1 = .ok (.ifCond .lt 13, 3) := by decide +kernel
theorem dX11_isHouse_4 : decode cX11_isHouse 4 = .ok (.iload_n 0, 1) := by decide +kernel
theorem dX11_isHouse_5 : decode cX11_isHouse 5 = .ok (.bipush 8, 2) := by decide +kernel
theorem dX11_isHouse_7 : decode cX11_isHouse 7 = .ok (.if_icmp .ge 7, 3) := by decide +kernel
theorem dX11_isHouse_10 : decode cX11_isHouse 10 = .ok (.iconst 1, 1) := by decide +kernel
theorem dX11_isHouse_11 : decode cX11_isHouse 11 = .ok (.goto 4, 3) := by decide +kernel
theorem dX11_isHouse_14 : decode cX11_isHouse 14 = .ok (.iconst 0, 1) := by decide +kernel
theorem dX11_isHouse_15 : decode cX11_isHouse 15 = .ok (.ireturn, 1) := by decide +kernel
theorem dX11_isAhead_0 : decode cX11_isAhead 0 = .ok (.iload_n 0, 1) := by decide +kernel
theorem dX11_isAhead_1 : decode cX11_isAhead 1 = .ok (.iconst 1, 1) := by decide +kernel
theorem dX11_isAhead_2 : decode cX11_isAhead 2 = .ok (.if_icmp .lt 12, 3) := by decide +kernel
theorem dX11_isAhead_5 : decode cX11_isAhead 5 = .ok (.iload_n 0, 1) := by decide +kernel
theorem dX11_isAhead_6 : decode cX11_isAhead 6 = .ok (.iconst 4, 1) := by decide +kernel
theorem dX11_isAhead_7 : decode cX11_isAhead 7 = .ok (.if_icmp .gt 7, 3) := by decide +kernel
theorem dX11_isAhead_10 : decode cX11_isAhead 10 = .ok (.iconst 1, 1) := by decide +kernel
theorem dX11_isAhead_11 : decode cX11_isAhead 11 = .ok (.goto 4, 3) := by decide +kernel
theorem dX11_isAhead_14 : decode cX11_isAhead 14 = .ok (.iconst 0, 1) := by decide +kernel
theorem dX11_isAhead_15 : decode cX11_isAhead 15 = .ok (.ireturn, 1) := by decide +kernel
theorem dX11_isDigit_0 : decode cX11_isDigit 0 = .ok (.iload_n 0, 1) := by decide +kernel
theorem dX11_isDigit_1 : decode cX11_isDigit 1 = .ok (.bipush 48, 2) := by decide +kernel
theorem dX11_isDigit_3 : decode cX11_isDigit 3 = .ok (.if_icmp .lt 13, 3) := by decide +kernel
theorem dX11_isDigit_6 : decode cX11_isDigit 6 = .ok (.iload_n 0, 1) := by decide +kernel
theorem dX11_isDigit_7 : decode cX11_isDigit 7 = .ok (.bipush 57, 2) := by decide +kernel
theorem dX11_isDigit_9 : decode cX11_isDigit 9 = .ok (.if_icmp .gt 7, 3) := by decide +kernel
theorem dX11_isDigit_12 : decode cX11_isDigit 12 = .ok (.iconst 1, 1) := by decide +kernel
theorem dX11_isDigit_13 : decode cX11_isDigit 13 = .ok (.goto 4, 3) := by decide +kernel
theorem dX11_isDigit_16 : decode cX11_isDigit 16 = .ok (.iconst 0, 1) := by decide +kernel
theorem dX11_isDigit_17 : decode cX11_isDigit 17 = .ok (.ireturn, 1) := by decide +kernel
theorem dX11_isLetter_0 : decode cX11_isLetter 0 = .ok (.iload_n 0, 1) := by decide +kernel
theorem dX11_isLetter_1 : decode cX11_isLetter 1 = .ok (.bipush 97, 2) := by decide +kernel
theorem dX11_isLetter_3 : decode cX11_isLetter 3 = .ok (.if_icmp .lt 13, 3) := by decide +kernel
theorem dX11_isLetter_6 : decode cX11_isLetter 6 = .ok (.iload_n 0, 1) := by decide +kernel
theorem dX11_isLetter_7 : decode cX11_isLetter 7 = .ok (.bipush 122, 2) := by decide +kernel
theorem dX11_isLetter_9 : decode cX11_isLetter 9 = .ok (.if_icmp .gt 7, 3) := by decide +kernel
theorem dX11_isLetter_12 : decode cX11_isLetter 12 = .ok (.iconst 1, 1) := by decide +kernel
theorem dX11_isLetter_13 : decode cX11_isLetter 13 = .ok (.goto 4, 3) := by decide +kernel
theorem dX11_isLetter_16 : decode cX11_isLetter 16 = .ok (.iconst 0, 1) := by decide +kernel
theorem dX11_isLetter_17 : decode cX11_isLetter 17 = .ok (.ireturn, 1) := by decide +kernel
theorem dX11_hasNumber_0 : decode cX11_hasNumber 0 = .ok (.iload_n 0, 1) := by decide +kernel
theorem dX11_hasNumber_1 : decode cX11_hasNumber 1 = .ok (.iconst 5, 1) := by decide +kernel
theorem dX11_hasNumber_2 : decode cX11_hasNumber 2 = .ok (.if_icmp .eq 9, 3) := by decide +kernel
theorem dX11_hasNumber_5 : decode cX11_hasNumber 5 = .ok (.iload_n 0, 1) := by decide +kernel
theorem dX11_hasNumber_6 : decode cX11_hasNumber 6 = .ok (.bipush 10, 2) := by decide +kernel
theorem dX11_hasNumber_8 : decode cX11_hasNumber 8 = .ok (.if_icmp .ne 7, 3) := by decide +kernel
theorem dX11_hasNumber_11 : decode cX11_hasNumber 11 = .ok (.iconst 1, 1) := by decide +kernel
theorem dX11_hasNumber_12 : decode cX11_hasNumber 12 = .ok (.goto 4, 3) := by decide +kernel
theorem dX11_hasNumber_15 : decode cX11_hasNumber 15 = .ok (.iconst 0, 1) := by decide +kernel
theorem dX11_hasNumber_16 : decode cX11_hasNumber 16 = .ok (.ireturn, 1) := by decide +kernel
theorem dX11_hasTest_0 : decode cX11_hasTest 0 = .ok (.iload_n 0, 1) := by decide +kernel
theorem dX11_hasTest_1 : decode cX11_hasTest 1 = .ok (.bipush 6, 2) := by decide +kernel
theorem dX11_hasTest_3 : decode cX11_hasTest 3 = .ok (.if_icmp .eq 15, 3) := by decide +kernel
theorem dX11_hasTest_6 : decode cX11_hasTest 6 = .ok (.iload_n 0, 1) := by decide +kernel
theorem dX11_hasTest_7 : decode cX11_hasTest 7 = .ok (.bipush 7, 2) := by decide +kernel
theorem dX11_hasTest_9 : decode cX11_hasTest 9 = .ok (.if_icmp .eq 9, 3) := by decide +kernel
theorem dX11_hasTest_12 : decode cX11_hasTest 12 = .ok (.iload_n 0, 1) := by decide +kernel
theorem dX11_hasTest_13 : decode cX11_hasTest 13 = .ok (.bipush 8, 2) := by decide +kernel
theorem dX11_hasTest_15 : decode cX11_hasTest 15 = .ok (.if_icmp .ne 7, 3) := by decide +kernel
theorem dX11_hasTest_18 : decode cX11_hasTest 18 = .ok (.iconst 1, 1) := by decide +kernel
theorem dX11_hasTest_19 : decode cX11_hasTest 19 = .ok (.goto 4, 3) := by decide +kernel
theorem dX11_hasTest_22 : decode cX11_hasTest 22 = .ok (.iconst 0, 1) := by decide +kernel
theorem dX11_hasTest_23 : decode cX11_hasTest 23 = .ok (.ireturn, 1) := by decide +kernel
theorem dX11_hasSum_0 : decode cX11_hasSum 0 = .ok (.iload_n 0, 1) := by decide +kernel
theorem dX11_hasSum_1 : decode cX11_hasSum 1 = .ok (.bipush 9, 2) := by decide +kernel
theorem dX11_hasSum_3 : decode cX11_hasSum 3 = .ok (.if_icmp .eq 10, 3) := by decide +kernel
theorem dX11_hasSum_6 : decode cX11_hasSum 6 = .ok (.iload_n 0, 1) := by decide +kernel
theorem dX11_hasSum_7 : decode cX11_hasSum 7 = .ok (.invokestatic 248, 3) := by decide +kernel
theorem dX11_hasSum_10 : decode cX11_hasSum 10 = .ok (.ifCond .eq 7, 3) := by decide +kernel
theorem dX11_hasSum_13 : decode cX11_hasSum 13 = .ok (.iconst 1, 1) := by decide +kernel
theorem dX11_hasSum_14 : decode cX11_hasSum 14 = .ok (.goto 4, 3) := by decide +kernel
theorem dX11_hasSum_17 : decode cX11_hasSum 17 = .ok (.iconst 0, 1) := by decide +kernel
theorem dX11_hasSum_18 : decode cX11_hasSum 18 = .ok (.ireturn, 1) := by decide +kernel
theorem dX11_hasPair_0 : decode cX11_hasPair 0 = .ok (.iload_n 0, 1) := by decide +kernel
theorem dX11_hasPair_1 : decode cX11_hasPair 1 = .ok (.iconst 3, 1) := by decide +kernel
theorem dX11_hasPair_2 : decode cX11_hasPair 2 = .ok (.if_icmp .eq 13, 3) := by decide +kernel
theorem dX11_hasPair_5 : decode cX11_hasPair 5 = .ok (.iload_n 0, 1) := by decide +kernel
theorem dX11_hasPair_6 : decode cX11_hasPair 6 = .ok (.iconst 4, 1) := by decide +kernel
theorem dX11_hasPair_7 : decode cX11_hasPair 7 = .ok (.if_icmp .eq 8, 3) := by decide +kernel
theorem dX11_hasPair_10 : decode cX11_hasPair 10 = .ok (.iload_n 0, 1) := by decide +kernel
theorem dX11_hasPair_11 : decode cX11_hasPair 11 = .ok (.iconst 5, 1) := by decide +kernel
theorem dX11_hasPair_12 : decode cX11_hasPair 12 = .ok (.if_icmp .ne 7, 3) := by decide +kernel
theorem dX11_hasPair_15 : decode cX11_hasPair 15 = .ok (.iconst 1, 1) := by decide +kernel
theorem dX11_hasPair_16 : decode cX11_hasPair 16 = .ok (.goto 4, 3) := by decide +kernel
theorem dX11_hasPair_19 : decode cX11_hasPair 19 = .ok (.iconst 0, 1) := by decide +kernel
theorem dX11_hasPair_20 : decode cX11_hasPair 20 = .ok (.ireturn, 1) := by decide +kernel
theorem dX11_hasDeed_0 : decode cX11_hasDeed 0 = .ok (.iload_n 0, 1) := by decide +kernel
theorem dX11_hasDeed_1 : decode cX11_hasDeed 1 = .ok (.ifCond .eq 12, 3) := by decide +kernel
theorem dX11_hasDeed_4 : decode cX11_hasDeed 4 = .ok (.iload_n 0, 1) := by decide +kernel
theorem dX11_hasDeed_5 : decode cX11_hasDeed 5 = .ok (.iconst 1, 1) := by decide +kernel
theorem dX11_hasDeed_6 : decode cX11_hasDeed 6 = .ok (.if_icmp .eq 7, 3) := by decide +kernel
theorem dX11_hasDeed_9 : decode cX11_hasDeed 9 = .ok (.iconst 1, 1) := by decide +kernel
theorem dX11_hasDeed_10 : decode cX11_hasDeed 10 = .ok (.goto 4, 3) := by decide +kernel
theorem dX11_hasDeed_13 : decode cX11_hasDeed 13 = .ok (.iconst 0, 1) := by decide +kernel
theorem dX11_hasDeed_14 : decode cX11_hasDeed 14 = .ok (.ireturn, 1) := by decide +kernel
theorem dX11_nameLetter_0 : decode cX11_nameLetter 0 = .ok (.iload_n 0, 1) := by decide +kernel
theorem dX11_nameLetter_1 : decode cX11_nameLetter 1 = .ok (.ifCond .lt 19, 3) := by decide +kernel
theorem dX11_nameLetter_4 : decode cX11_nameLetter 4 = .ok (.iload_n 0, 1) := by decide +kernel
theorem dX11_nameLetter_5 : decode cX11_nameLetter 5 = .ok (.bipush 11, 2) := by decide +kernel
theorem dX11_nameLetter_7 : decode cX11_nameLetter 7 = .ok (.if_icmp .ge 13, 3) := by decide +kernel
theorem dX11_nameLetter_10 : decode cX11_nameLetter 10 = .ok (.iload_n 1, 1) := by decide +kernel
theorem dX11_nameLetter_11 : decode cX11_nameLetter 11 = .ok (.ifCond .lt 9, 3) := by decide +kernel
theorem dX11_nameLetter_14 : decode cX11_nameLetter 14 = .ok (.iload_n 1, 1) := by decide +kernel
theorem dX11_nameLetter_15 : decode cX11_nameLetter 15 = .ok (.bipush 8, 2) := by decide +kernel
theorem dX11_nameLetter_17 : decode cX11_nameLetter 17 = .ok (.if_icmp .lt 6, 3) := by decide +kernel
theorem dX11_nameLetter_20 : decode cX11_nameLetter 20 = .ok (.bipush 32, 2) := by decide +kernel
theorem dX11_nameLetter_22 : decode cX11_nameLetter 22 = .ok (.ireturn, 1) := by decide +kernel
theorem dX11_nameLetter_23 : decode cX11_nameLetter 23 = .ok (.iload_n 0, 1) := by decide +kernel
theorem dX11_nameLetter_24 : decode cX11_nameLetter 24 = .ok (.bipush 8, 2) := by decide +kernel
theorem dX11_nameLetter_26 : decode cX11_nameLetter 26 = .ok (.imul, 1) := by decide +kernel
theorem dX11_nameLetter_27 : decode cX11_nameLetter 27 = .ok (.iload_n 1, 1) := by decide +kernel
theorem dX11_nameLetter_28 : decode cX11_nameLetter 28 = .ok (.iadd, 1) := by decide +kernel
theorem dX11_nameLetter_29 : decode cX11_nameLetter 29 = .ok (.istore_n 2, 1) := by decide +kernel
theorem dX11_nameLetter_30 : decode cX11_nameLetter 30 = .ok (.iload_n 2, 1) := by decide +kernel
theorem dX11_nameLetter_31 : decode cX11_nameLetter 31 = .ok (.ldc 251, 2) := by decide +kernel
theorem dX11_nameLetter_33 : decode cX11_nameLetter 33 = .ok (.invokevirtual 253, 3) := by decide +kernel
theorem dX11_nameLetter_36 : decode cX11_nameLetter 36 = .ok (.if_icmp .ge 12, 3) := by decide +kernel
theorem dX11_nameLetter_39 : decode cX11_nameLetter 39 = .ok (.ldc 251, 2) := by decide +kernel
theorem dX11_nameLetter_41 : decode cX11_nameLetter 41 = .ok (.iload_n 2, 1) := by decide +kernel
theorem dX11_nameLetter_42 : decode cX11_nameLetter 42 = .ok (.invokevirtual 258, 3) := by decide +kernel
theorem dX11_nameLetter_45 : decode cX11_nameLetter 45 = .ok (.goto 5, 3) := by decide +kernel
theorem dX11_nameLetter_48 : decode cX11_nameLetter 48 = .ok (.bipush 32, 2) := by decide +kernel
theorem dX11_nameLetter_50 : decode cX11_nameLetter 50 = .ok (.ireturn, 1) := by decide +kernel
theorem dX12_init_0 : decode cX12_init 0 = .ok (.aload_n 0, 1) := by decide +kernel
theorem dX12_init_1 : decode cX12_init 1 = .ok (.invokespecial 1, 3) := by decide +kernel
theorem dX12_init_4 : decode cX12_init 4 = .ok (.aload_n 0, 1) := by decide +kernel
theorem dX12_init_5 : decode cX12_init 5 = .ok (.sipush 2400, 3) := by decide +kernel
theorem dX12_init_8 : decode cX12_init 8 = .ok (.newarray .int, 2) := by decide +kernel
theorem dX12_init_10 : decode cX12_init 10 = .ok (.putfield 7, 3) := by decide +kernel
theorem dX12_init_13 : decode cX12_init 13 = .ok (.aload_n 0, 1) := by decide +kernel
theorem dX12_init_14 : decode cX12_init 14 = .ok (.sipush 400, 3) := by decide +kernel
theorem dX12_init_17 : decode cX12_init 17 = .ok (.newarray .byte, 2) := by decide +kernel
theorem dX12_init_19 : decode cX12_init 19 = .ok (.putfield 13, 3) := by decide +kernel
theorem dX12_init_22 : decode cX12_init 22 = .ok (.aload_n 0, 1) := by decide +kernel
theorem dX12_init_23 : decode cX12_init 23 = .ok (.bipush 22, 2) := by decide +kernel
theorem dX12_init_25 : decode cX12_init 25 = .ok (.newarray .int, 2) := by decide +kernel
theorem dX12_init_27 : decode cX12_init 27 = .ok (.putfield 17, 3) := by decide +kernel
theorem dX12_init_30 : decode cX12_init 30 = .ok (.aload_n 0, 1) := by decide +kernel
theorem dX12_init_31 : decode cX12_init 31 = .ok (.sipush 880, 3) := by decide +kernel
theorem dX12_init_34 : decode cX12_init 34 = .ok (.newarray .int, 2) := by decide +kernel
theorem dX12_init_36 : decode cX12_init 36 = .ok (.putfield 20, 3) := by decide +kernel
theorem dX12_init_39 : decode cX12_init 39 = .ok (.aload_n 0, 1) := by decide +kernel
theorem dX12_init_40 : decode cX12_init 40 = .ok (.sipush 880, 3) := by decide +kernel
theorem dX12_init_43 : decode cX12_init 43 = .ok (.newarray .int, 2) := by decide +kernel
theorem dX12_init_45 : decode cX12_init 45 = .ok (.putfield 23, 3) := by decide +kernel
theorem dX12_init_48 : decode cX12_init 48 = .ok (.aload_n 0, 1) := by decide +kernel
theorem dX12_init_49 : decode cX12_init 49 = .ok (.sipush 880, 3) := by decide +kernel
theorem dX12_init_52 : decode cX12_init 52 = .ok (.newarray .int, 2) := by decide +kernel
theorem dX12_init_54 : decode cX12_init 54 = .ok (.putfield 26, 3) := by decide +kernel
theorem dX12_init_57 : decode cX12_init 57 = .ok (.aload_n 0, 1) := by decide +kernel
theorem dX12_init_58 : decode cX12_init 58 = .ok (.sipush 880, 3) := by decide +kernel
theorem dX12_init_61 : decode cX12_init 61 = .ok (.newarray .int, 2) := by decide +kernel
theorem dX12_init_63 : decode cX12_init 63 = .ok (.putfield 29, 3) := by decide +kernel
theorem dX12_init_66 : decode cX12_init 66 = .ok (.aload_n 0, 1) := by decide +kernel
theorem dX12_init_67 : decode cX12_init 67 = .ok (.sipush 880, 3) := by decide +kernel
theorem dX12_init_70 : decode cX12_init 70 = .ok (.newarray .int, 2) := by decide +kernel
theorem dX12_init_72 : decode cX12_init 72 = .ok (.putfield 32, 3) := by decide +kernel
theorem dX12_init_75 : decode cX12_init 75 = .ok (.aload_n 0, 1) := by decide +kernel
theorem dX12_init_76 : decode cX12_init 76 = .ok (.sipush 880, 3) := by decide +kernel
theorem dX12_init_79 : decode cX12_init 79 = .ok (.newarray .int, 2) := by decide +kernel
theorem dX12_init_81 : decode cX12_init 81 = .ok (.putfield 35, 3) := by decide +kernel
theorem dX12_init_84 : decode cX12_init 84 = .ok (.aload_n 0, 1) := by decide +kernel
theorem dX12_init_85 : decode cX12_init 85 = .ok (.sipush 880, 3) := by decide +kernel
theorem dX12_init_88 : decode cX12_init 88 = .ok (.newarray .int, 2) := by decide +kernel
theorem dX12_init_90 : decode cX12_init 90 = .ok (.putfield 38, 3) := by decide +kernel
theorem dX12_init_93 : decode cX12_init 93 = .ok (.aload_n 0, 1) := by decide +kernel
theorem dX12_init_94 : decode cX12_init 94 = .ok (.sipush 880, 3) := by decide +kernel
theorem dX12_init_97 : decode cX12_init 97 = .ok (.newarray .int, 2) := by decide +kernel
theorem dX12_init_99 : decode cX12_init 99 = .ok (.putfield 41, 3) := by decide +kernel
theorem dX12_init_102 : decode cX12_init 102 = .ok (.aload_n 0, 1) := by decide +kernel
theorem dX12_init_103 : decode cX12_init 103 = .ok (.sipush 880, 3) := by decide +kernel
theorem dX12_init_106 : decode cX12_init 106 = .ok (.newarray .int, 2) := by decide +kernel
theorem dX12_init_108 : decode cX12_init 108 = .ok (.putfield 44, 3) := by decide +kernel
theorem dX12_init_111 : decode cX12_init 111 = .ok (.aload_n 0, 1) := by decide +kernel
theorem dX12_init_112 : decode cX12_init 112 = .ok (.sipush 880, 3) := by decide +kernel
theorem dX12_init_115 : decode cX12_init 115 = .ok (.newarray .int, 2) := by decide +kernel
theorem dX12_init_117 : decode cX12_init 117 = .ok (.putfield 47, 3) := by decide +kernel
theorem dX12_init_120 : decode cX12_init 120 = .ok (.aload_n 0, 1) := by decide +kernel
theorem dX12_init_121 : decode cX12_init 121 = .ok (.bipush 22, 2) := by decide +kernel
theorem dX12_init_123 : decode cX12_init 123 = .ok (.newarray .int, 2) := by decide +kernel
theorem dX12_init_125 : decode cX12_init 125 = .ok (.putfield 50, 3) := by decide +kernel
theorem dX12_init_128 : decode cX12_init 128 = .ok (.aload_n 0, 1) := by decide +kernel
theorem dX12_init_129 : decode cX12_init 129 = .ok (.sipush 880, 3) := by decide +kernel
theorem dX12_init_132 : decode cX12_init 132 = .ok (.newarray .int, 2) := by decide +kernel
theorem dX12_init_134 : decode cX12_init 134 = .ok (.putfield 53, 3) := by decide +kernel
theorem dX12_init_137 : decode cX12_init 137 = .ok (.aload_n 0, 1) := by decide +kernel
theorem dX12_init_138 : decode cX12_init 138 = .ok (.sipush 880, 3) := by decide +kernel
theorem dX12_init_141 : decode cX12_init 141 = .ok (.newarray .int, 2) := by decide +kernel
theorem dX12_init_143 : decode cX12_init 143 = .ok (.putfield 56, 3) := by decide +kernel
theorem dX12_init_146 : decode cX12_init 146 = .ok (.aload_n 0, 1) := by decide +kernel
theorem dX12_init_147 : decode cX12_init 147 = .ok (.sipush 880, 3) := by decide +kernel
theorem dX12_init_150 : decode cX12_init 150 = .ok (.newarray .int, 2) := by decide +kernel
theorem dX12_init_152 : decode cX12_init 152 = .ok (.putfield 59, 3) := by decide +kernel
theorem dX12_init_155 : decode cX12_init 155 = .ok (.aload_n 0, 1) := by decide +kernel
theorem dX12_init_156 : decode cX12_init 156 = .ok (.bipush 40, 2) := by decide +kernel
theorem dX12_init_158 : decode cX12_init 158 = .ok (.newarray .int, 2) := by decide +kernel
theorem dX12_init_160 : decode cX12_init 160 = .ok (.putfield 62, 3) := by decide +kernel
theorem dX12_init_163 : decode cX12_init 163 = .ok (.aload_n 0, 1) := by decide +kernel
theorem dX12_init_164 : decode cX12_init 164 = .ok (.bipush 40, 2) := by decide +kernel
theorem dX12_init_166 : decode cX12_init 166 = .ok (.newarray .int, 2) := by decide +kernel
theorem dX12_init_168 : decode cX12_init 168 = .ok (.putfield 65, 3) := by decide +kernel
theorem dX12_init_171 : decode cX12_init 171 = .ok (.aload_n 0, 1) := by decide +kernel
theorem dX12_init_172 : decode cX12_init 172 = .ok (.bipush 11, 2) := by decide +kernel
theorem dX12_init_174 : decode cX12_init 174 = .ok (.newarray .long, 2) := by decide +kernel
theorem dX12_init_176 : decode cX12_init 176 = .ok (.dup, 1) := by decide +kernel
theorem dX12_init_177 : decode cX12_init 177 = .ok (.iconst 0, 1) := by decide +kernel
theorem dX12_init_178 : decode cX12_init 178 = .ok (.ldc2_w 68, 3) := by decide +kernel
theorem dX12_init_181 : decode cX12_init 181 = .ok (.lastore, 1) := by decide +kernel
theorem dX12_init_182 : decode cX12_init 182 = .ok (.dup, 1) := by decide +kernel
theorem dX12_init_183 : decode cX12_init 183 = .ok (.iconst 1, 1) := by decide +kernel
theorem dX12_init_184 : decode cX12_init 184 = .ok (.ldc2_w 70, 3) := by decide +kernel
theorem dX12_init_187 : decode cX12_init 187 = .ok (.lastore, 1) := by decide +kernel
theorem dX12_init_188 : decode cX12_init 188 = .ok (.dup, 1) := by decide +kernel
theorem dX12_init_189 : decode cX12_init 189 = .ok (.iconst 2, 1) := by decide +kernel
theorem dX12_init_190 : decode cX12_init 190 = .ok (.ldc2_w 72, 3) := by decide +kernel
theorem dX12_init_193 : decode cX12_init 193 = .ok (.lastore, 1) := by decide +kernel
theorem dX12_init_194 : decode cX12_init 194 = .ok (.dup, 1) := by decide +kernel
theorem dX12_init_195 : decode cX12_init 195 = .ok (.iconst 3, 1) := by decide +kernel
theorem dX12_init_196 : decode cX12_init 196 = .ok (.ldc2_w 74, 3) := by decide +kernel
theorem dX12_init_199 : decode cX12_init 199 = .ok (.lastore, 1) := by decide +kernel
theorem dX12_init_200 : decode cX12_init 200 = .ok (.dup, 1) := by decide +kernel
theorem dX12_init_201 : decode cX12_init 201 = .ok (.iconst 4, 1) := by decide +kernel
theorem dX12_init_202 : decode cX12_init 202 = .ok (.ldc2_w 76, 3) := by decide +kernel
theorem dX12_init_205 : decode cX12_init 205 = .ok (.lastore, 1) := by decide +kernel
theorem dX12_init_206 : decode cX12_init 206 = .ok (.dup, 1) := by decide +kernel
theorem dX12_init_207 : decode cX12_init 207 = .ok (.iconst 5, 1) := by decide +kernel
theorem dX12_init_208 : decode cX12_init 208 = .ok (.ldc2_w 78, 3) := by decide +kernel
theorem dX12_init_211 : decode cX12_init 211 = .ok (.lastore, 1) := by decide +kernel
theorem dX12_init_212 : decode cX12_init 212 = .ok (.dup, 1) := by decide +kernel
theorem dX12_init_213 : decode cX12_init 213 = .ok (.bipush 6, 2) := by decide +kernel
theorem dX12_init_215 : decode cX12_init 215 = .ok (.ldc2_w 80, 3) := by decide +kernel
theorem dX12_init_218 : decode cX12_init 218 = .ok (.lastore, 1) := by decide +kernel
theorem dX12_init_219 : decode cX12_init 219 = .ok (.dup, 1) := by decide +kernel
theorem dX12_init_220 : decode cX12_init 220 = .ok (.bipush 7, 2) := by decide +kernel
theorem dX12_init_222 : decode cX12_init 222 = .ok (.ldc2_w 82, 3) := by decide +kernel
theorem dX12_init_225 : decode cX12_init 225 = .ok (.lastore, 1) := by decide +kernel
theorem dX12_init_226 : decode cX12_init 226 = .ok (.dup, 1) := by decide +kernel
theorem dX12_init_227 : decode cX12_init 227 = .ok (.bipush 8, 2) := by decide +kernel
theorem dX12_init_229 : decode cX12_init 229 = .ok (.ldc2_w 84, 3) := by decide +kernel
theorem dX12_init_232 : decode cX12_init 232 = .ok (.lastore, 1) := by decide +kernel
theorem dX12_init_233 : decode cX12_init 233 = .ok (.dup, 1) := by decide +kernel
theorem dX12_init_234 : decode cX12_init 234 = .ok (.bipush 9, 2) := by decide +kernel
theorem dX12_init_236 : decode cX12_init 236 = .ok (.ldc2_w 86, 3) := by decide +kernel
theorem dX12_init_239 : decode cX12_init 239 = .ok (.lastore, 1) := by decide +kernel
theorem dX12_init_240 : decode cX12_init 240 = .ok (.dup, 1) := by decide +kernel
theorem dX12_init_241 : decode cX12_init 241 = .ok (.bipush 10, 2) := by decide +kernel
theorem dX12_init_243 : decode cX12_init 243 = .ok (.ldc2_w 88, 3) := by decide +kernel
theorem dX12_init_246 : decode cX12_init 246 = .ok (.lastore, 1) := by decide +kernel
theorem dX12_init_247 : decode cX12_init 247 = .ok (.putfield 90, 3) := by decide +kernel
theorem dX12_init_250 : decode cX12_init 250 = .ok (.aload_n 0, 1) := by decide +kernel
theorem dX12_init_251 : decode cX12_init 251 = .ok (.bipush 6, 2) := by decide +kernel
theorem dX12_init_253 : decode cX12_init 253 = .ok (.newarray .long, 2) := by decide +kernel
theorem dX12_init_255 : decode cX12_init 255 = .ok (.putfield 94, 3) := by decide +kernel
theorem dX12_init_258 : decode cX12_init 258 = .ok (.aload_n 0, 1) := by decide +kernel
theorem dX12_init_259 : decode cX12_init 259 = .ok (.bipush 40, 2) := by decide +kernel
theorem dX12_init_261 : decode cX12_init 261 = .ok (.newarray .int, 2) := by decide +kernel
theorem dX12_init_263 : decode cX12_init 263 = .ok (.putfield 97, 3) := by decide +kernel
theorem dX12_init_266 : decode cX12_init 266 = .ok (.aload_n 0, 1) := by decide +kernel
theorem dX12_init_267 : decode cX12_init 267 = .ok (.bipush 40, 2) := by decide +kernel
theorem dX12_init_269 : decode cX12_init 269 = .ok (.newarray .int, 2) := by decide +kernel
theorem dX12_init_271 : decode cX12_init 271 = .ok (.putfield 100, 3) := by decide +kernel
theorem dX12_init_274 : decode cX12_init 274 = .ok (.aload_n 0, 1) := by decide +kernel
theorem dX12_init_275 : decode cX12_init 275 = .ok (.bipush 40, 2) := by decide +kernel
theorem dX12_init_277 : decode cX12_init 277 = .ok (.newarray .int, 2) := by decide +kernel
theorem dX12_init_279 : decode cX12_init 279 = .ok (.putfield 103, 3) := by decide +kernel
theorem dX12_init_282 : decode cX12_init 282 = .ok (.aload_n 0, 1) := by decide +kernel
theorem dX12_init_283 : decode cX12_init 283 = .ok (.bipush 40, 2) := by decide +kernel
theorem dX12_init_285 : decode cX12_init 285 = .ok (.newarray .long, 2) := by decide +kernel
theorem dX12_init_287 : decode cX12_init 287 = .ok (.putfield 106, 3) := by decide +kernel
theorem dX12_init_290 : decode cX12_init 290 = .ok (.aload_n 0, 1) := by decide +kernel
theorem dX12_init_291 : decode cX12_init 291 = .ok (.bipush 40, 2) := by decide +kernel
theorem dX12_init_293 : decode cX12_init 293 = .ok (.newarray .int, 2) := by decide +kernel
theorem dX12_init_295 : decode cX12_init 295 = .ok (.putfield 109, 3) := by decide +kernel
theorem dX12_init_298 : decode cX12_init 298 = .ok (.aload_n 0, 1) := by decide +kernel
theorem dX12_init_299 : decode cX12_init 299 = .ok (.sipush 1600, 3) := by decide +kernel
theorem dX12_init_302 : decode cX12_init 302 = .ok (.newarray .int, 2) := by decide +kernel
theorem dX12_init_304 : decode cX12_init 304 = .ok (.putfield 112, 3) := by decide +kernel
theorem dX12_init_307 : decode cX12_init 307 = .ok (.aload_n 0, 1) := by decide +kernel
theorem dX12_init_308 : decode cX12_init 308 = .ok (.sipush 1600, 3) := by decide +kernel
theorem dX12_init_311 : decode cX12_init 311 = .ok (.newarray .long, 2) := by decide +kernel
theorem dX12_init_313 : decode cX12_init 313 = .ok (.putfield 115, 3) := by decide +kernel
theorem dX12_init_316 : decode cX12_init 316 = .ok (.aload_n 0, 1) := by decide +kernel
theorem dX12_init_317 : decode cX12_init 317 = .ok (.sipush 2000, 3) := by decide +kernel
theorem dX12_init_320 : decode cX12_init 320 = .ok (.newarray .int, 2) := by decide +kernel
theorem dX12_init_322 : decode cX12_init 322 = .ok (.putfield 118, 3) := by decide +kernel
theorem dX12_init_325 : decode cX12_init 325 = .ok (.aload_n 0, 1) := by decide +kernel
theorem dX12_init_326 : decode cX12_init 326 = .ok (.sipush 2000, 3) := by decide +kernel
theorem dX12_init_329 : decode cX12_init 329 = .ok (.newarray .int, 2) := by decide +kernel
theorem dX12_init_331 : decode cX12_init 331 = .ok (.putfield 121, 3) := by decide +kernel
theorem dX12_init_334 : decode cX12_init 334 = .ok (.aload_n 0, 1) := by decide +kernel
theorem dX12_init_335 : decode cX12_init 335 = .ok (.sipush 2000, 3) := by decide +kernel
theorem dX12_init_338 : decode cX12_init 338 = .ok (.newarray .int, 2) := by decide +kernel
theorem dX12_init_340 : decode cX12_init 340 = .ok (.putfield 124, 3) := by decide +kernel
theorem dX12_init_343 : decode cX12_init 343 = .ok (.aload_n 0, 1) := by decide +kernel
theorem dX12_init_344 : decode cX12_init 344 = .ok (.sipush 2000, 3) := by decide +kernel
theorem dX12_init_347 : decode cX12_init 347 = .ok (.newarray .int, 2) := by decide +kernel
theorem dX12_init_349 : decode cX12_init 349 = .ok (.putfield 127, 3) := by decide +kernel
theorem dX12_init_352 : decode cX12_init 352 = .ok (.aload_n 0, 1) := by decide +kernel
theorem dX12_init_353 : decode cX12_init 353 = .ok (.bipush 64, 2) := by decide +kernel
theorem dX12_init_355 : decode cX12_init 355 = .ok (.newarray .int, 2) := by decide +kernel
theorem dX12_init_357 : decode cX12_init 357 = .ok (.putfield 130, 3) := by decide +kernel
theorem dX12_init_360 : decode cX12_init 360 = .ok (.aload_n 0, 1) := by decide +kernel
theorem dX12_init_361 : decode cX12_init 361 = .ok (.bipush 64, 2) := by decide +kernel
theorem dX12_init_363 : decode cX12_init 363 = .ok (.newarray .long, 2) := by decide +kernel
theorem dX12_init_365 : decode cX12_init 365 = .ok (.putfield 133, 3) := by decide +kernel
theorem dX12_init_368 : decode cX12_init 368 = .ok (.aload_n 0, 1) := by decide +kernel
theorem dX12_init_369 : decode cX12_init 369 = .ok (.bipush 8, 2) := by decide +kernel
theorem dX12_init_371 : decode cX12_init 371 = .ok (.newarray .int, 2) := by decide +kernel
theorem dX12_init_373 : decode cX12_init 373 = .ok (.putfield 136, 3) := by decide +kernel
theorem dX12_init_376 : decode cX12_init 376 = .ok (.aload_n 0, 1) := by decide +kernel
theorem dX12_init_377 : decode cX12_init 377 = .ok (.bipush 8, 2) := by decide +kernel
theorem dX12_init_379 : decode cX12_init 379 = .ok (.newarray .int, 2) := by decide +kernel
theorem dX12_init_381 : decode cX12_init 381 = .ok (.putfield 139, 3) := by decide +kernel
theorem dX12_init_384 : decode cX12_init 384 = .ok (.aload_n 0, 1) := by decide +kernel
theorem dX12_init_385 : decode cX12_init 385 = .ok (.bipush 8, 2) := by decide +kernel
theorem dX12_init_387 : decode cX12_init 387 = .ok (.newarray .long, 2) := by decide +kernel
theorem dX12_init_389 : decode cX12_init 389 = .ok (.putfield 142, 3) := by decide +kernel
theorem dX12_init_392 : decode cX12_init 392 = .ok (.aload_n 0, 1) := by decide +kernel
theorem dX12_init_393 : decode cX12_init 393 = .ok (.bipush 8, 2) := by decide +kernel
theorem dX12_init_395 : decode cX12_init 395 = .ok (.newarray .long, 2) := by decide +kernel
theorem dX12_init_397 : decode cX12_init 397 = .ok (.putfield 145, 3) := by decide +kernel
theorem dX12_init_400 : decode cX12_init 400 = .ok (.aload_n 0, 1) := by decide +kernel
theorem dX12_init_401 : decode cX12_init 401 = .ok (.bipush 8, 2) := by decide +kernel
theorem dX12_init_403 : decode cX12_init 403 = .ok (.newarray .long, 2) := by decide +kernel
theorem dX12_init_405 : decode cX12_init 405 = .ok (.putfield 148, 3) := by decide +kernel
theorem dX12_init_408 : decode cX12_init 408 = .ok (.aload_n 0, 1) := by decide +kernel
theorem dX12_init_409 : decode cX12_init 409 = .ok (.iconst 1, 1) := by decide +kernel
theorem dX12_init_410 : decode cX12_init 410 = .ok (.putfield 151, 3) := by decide +kernel
theorem dX12_init_413 : decode cX12_init 413 = .ok (.aload_n 0, 1) := by decide +kernel
theorem dX12_init_414 : decode cX12_init 414 = .ok (.iconst 3, 1) := by decide +kernel
theorem dX12_init_415 : decode cX12_init 415 = .ok (.newarray .int, 2) := by decide +kernel
theorem dX12_init_417 : decode cX12_init 417 = .ok (.putfield 155, 3) := by decide +kernel
theorem dX12_init_420 : decode cX12_init 420 = .ok (.aload_n 0, 1) := by decide +kernel
theorem dX12_init_421 : decode cX12_init 421 = .ok (.bipush 18, 2) := by decide +kernel
theorem dX12_init_423 : decode cX12_init 423 = .ok (.newarray .int, 2) := by decide +kernel
theorem dX12_init_425 : decode cX12_init 425 = .ok (.putfield 158, 3) := by decide +kernel
theorem dX12_init_428 : decode cX12_init 428 = .ok (.aload_n 0, 1) := by decide +kernel
theorem dX12_init_429 : decode cX12_init 429 = .ok (.bipush 6, 2) := by decide +kernel
theorem dX12_init_431 : decode cX12_init 431 = .ok (.newarray .int, 2) := by decide +kernel
theorem dX12_init_433 : decode cX12_init 433 = .ok (.putfield 161, 3) := by decide +kernel
theorem dX12_init_436 : decode cX12_init 436 = .ok (.aload_n 0, 1) := by decide +kernel
theorem dX12_init_437 : decode cX12_init 437 = .ok (.bipush 80, 2) := by decide +kernel
theorem dX12_init_439 : decode cX12_init 439 = .ok (.newarray .int, 2) := by decide +kernel
theorem dX12_init_441 : decode cX12_init 441 = .ok (.putfield 164, 3) := by decide +kernel
theorem dX12_init_444 : decode cX12_init 444 = .ok (.aload_n 0, 1) := by decide +kernel
theorem dX12_init_445 : decode cX12_init 445 = .ok (.bipush 80, 2) := by decide +kernel
theorem dX12_init_447 : decode cX12_init 447 = .ok (.newarray .int, 2) := by decide +kernel
theorem dX12_init_449 : decode cX12_init 449 = .ok (.putfield 167, 3) := by decide +kernel
theorem dX12_init_452 : decode cX12_init 452 = .ok (.aload_n 0, 1) := by decide +kernel
theorem dX12_init_453 : decode cX12_init 453 = .ok (.bipush 80, 2) := by decide +kernel
theorem dX12_init_455 : decode cX12_init 455 = .ok (.newarray .int, 2) := by decide +kernel
theorem dX12_init_457 : decode cX12_init 457 = .ok (.putfield 170, 3) := by decide +kernel
theorem dX12_init_460 : decode cX12_init 460 = .ok (.aload_n 0, 1) := by decide +kernel
theorem dX12_init_461 : decode cX12_init 461 = .ok (.bipush 80, 2) := by decide +kernel
theorem dX12_init_463 : decode cX12_init 463 = .ok (.newarray .long, 2) := by decide +kernel
theorem dX12_init_465 : decode cX12_init 465 = .ok (.putfield 173, 3) := by decide +kernel
theorem dX12_init_468 : decode cX12_init 468 = .ok (.aload_n 0, 1) := by decide +kernel
theorem dX12_init_469 : decode cX12_init 469 = .ok (.bipush 80, 2) := by decide +kernel
theorem dX12_init_471 : decode cX12_init 471 = .ok (.newarray .int, 2) := by decide +kernel
theorem dX12_init_473 : decode cX12_init 473 = .ok (.putfield 176, 3) := by decide +kernel
theorem dX12_init_476 : decode cX12_init 476 = .ok (.aload_n 0, 1) := by decide +kernel
theorem dX12_init_477 : decode cX12_init 477 = .ok (.bipush 80, 2) := by decide +kernel
theorem dX12_init_479 : decode cX12_init 479 = .ok (.newarray .long, 2) := by decide +kernel
theorem dX12_init_481 : decode cX12_init 481 = .ok (.putfield 179, 3) := by decide +kernel
theorem dX12_init_484 : decode cX12_init 484 = .ok (.aload_n 0, 1) := by decide +kernel
theorem dX12_init_485 : decode cX12_init 485 = .ok (.bipush 80, 2) := by decide +kernel
theorem dX12_init_487 : decode cX12_init 487 = .ok (.newarray .boolean, 2) := by decide +kernel
theorem dX12_init_489 : decode cX12_init 489 = .ok (.putfield 182, 3) := by decide +kernel
theorem dX12_init_492 : decode cX12_init 492 = .ok (.aload_n 0, 1) := by decide +kernel
theorem dX12_init_493 : decode cX12_init 493 = .ok (.bipush 80, 2) := by decide +kernel
theorem dX12_init_495 : decode cX12_init 495 = .ok (.newarray .long, 2) := by decide +kernel
theorem dX12_init_497 : decode cX12_init 497 = .ok (.putfield 186, 3) := by decide +kernel
theorem dX12_init_500 : decode cX12_init 500 = .ok (.aload_n 0, 1) := by decide +kernel
theorem dX12_init_501 : decode cX12_init 501 = .ok (.bipush 80, 2) := by decide +kernel
theorem dX12_init_503 : decode cX12_init 503 = .ok (.newarray .int, 2) := by decide +kernel
theorem dX12_init_505 : decode cX12_init 505 = .ok (.putfield 189, 3) := by decide +kernel
theorem dX12_init_508 : decode cX12_init 508 = .ok (.aload_n 0, 1) := by decide +kernel
theorem dX12_init_509 : decode cX12_init 509 = .ok (.bipush 13, 2) := by decide +kernel
theorem dX12_init_511 : decode cX12_init 511 = .ok (.newarray .int, 2) := by decide +kernel
theorem dX12_init_513 : decode cX12_init 513 = .ok (.putfield 192, 3) := by decide +kernel
theorem dX12_init_516 : decode cX12_init 516 = .ok (.aload_n 0, 1) := by decide +kernel
theorem dX12_init_517 : decode cX12_init 517 = .ok (.sipush 5265, 3) := by decide +kernel
theorem dX12_init_520 : decode cX12_init 520 = .ok (.newarray .boolean, 2) := by decide +kernel
theorem dX12_init_522 : decode cX12_init 522 = .ok (.putfield 195, 3) := by decide +kernel
theorem dX12_init_525 : decode cX12_init 525 = .ok (.aload_n 0, 1) := by decide +kernel
theorem dX12_init_526 : decode cX12_init 526 = .ok (.sipush 5265, 3) := by decide +kernel
theorem dX12_init_529 : decode cX12_init 529 = .ok (.newarray .int, 2) := by decide +kernel
theorem dX12_init_531 : decode cX12_init 531 = .ok (.putfield 198, 3) := by decide +kernel
theorem dX12_init_534 : decode cX12_init 534 = .ok (.aload_n 0, 1) := by decide +kernel
theorem dX12_init_535 : decode cX12_init 535 = .ok (.bipush 64, 2) := by decide +kernel
theorem dX12_init_537 : decode cX12_init 537 = .ok (.newarray .int, 2) := by decide +kernel
theorem dX12_init_539 : decode cX12_init 539 = .ok (.putfield 201, 3) := by decide +kernel
theorem dX12_init_542 : decode cX12_init 542 = .ok (.aload_n 0, 1) := by decide +kernel
theorem dX12_init_543 : decode cX12_init 543 = .ok (.bipush 64, 2) := by decide +kernel
theorem dX12_init_545 : decode cX12_init 545 = .ok (.newarray .long, 2) := by decide +kernel
theorem dX12_init_547 : decode cX12_init 547 = .ok (.putfield 204, 3) := by decide +kernel
theorem dX12_init_550 : decode cX12_init 550 = .ok (.aload_n 0, 1) := by decide +kernel
theorem dX12_init_551 : decode cX12_init 551 = .ok (.iconst 5, 1) := by decide +kernel
theorem dX12_init_552 : decode cX12_init 552 = .ok (.newarray .long, 2) := by decide +kernel
theorem dX12_init_554 : decode cX12_init 554 = .ok (.putfield 207, 3) := by decide +kernel
theorem dX12_init_557 : decode cX12_init 557 = .ok (.aload_n 0, 1) := by decide +kernel
theorem dX12_init_558 : decode cX12_init 558 = .ok (.bipush 82, 2) := by decide +kernel
theorem dX12_init_560 : decode cX12_init 560 = .ok (.newarray .int, 2) := by decide +kernel
theorem dX12_init_562 : decode cX12_init 562 = .ok (.putfield 210, 3) := by decide +kernel
theorem dX12_init_565 : decode cX12_init 565 = .ok (.aload_n 0, 1) := by decide +kernel
theorem dX12_init_566 : decode cX12_init 566 = .ok (.bipush 82, 2) := by decide +kernel
theorem dX12_init_568 : decode cX12_init 568 = .ok (.newarray .int, 2) := by decide +kernel
theorem dX12_init_570 : decode cX12_init 570 = .ok (.putfield 213, 3) := by decide +kernel
theorem dX12_init_573 : decode cX12_init 573 = .ok (.aload_n 0, 1) := by decide +kernel
theorem dX12_init_574 : decode cX12_init 574 = .ok (.bipush 82, 2) := by decide +kernel
theorem dX12_init_576 : decode cX12_init 576 = .ok (.newarray .int, 2) := by decide +kernel
theorem dX12_init_578 : decode cX12_init 578 = .ok (.putfield 216, 3) := by decide +kernel
theorem dX12_init_581 : decode cX12_init 581 = .ok (.aload_n 0, 1) := by decide +kernel
theorem dX12_init_582 : decode cX12_init 582 = .ok (.bipush 82, 2) := by decide +kernel
theorem dX12_init_584 : decode cX12_init 584 = .ok (.newarray .int, 2) := by decide +kernel
theorem dX12_init_586 : decode cX12_init 586 = .ok (.putfield 219, 3) := by decide +kernel
theorem dX12_init_589 : decode cX12_init 589 = .ok (.aload_n 0, 1) := by decide +kernel
theorem dX12_init_590 : decode cX12_init 590 = .ok (.bipush 82, 2) := by decide +kernel
theorem dX12_init_592 : decode cX12_init 592 = .ok (.newarray .int, 2) := by decide +kernel
theorem dX12_init_594 : decode cX12_init 594 = .ok (.putfield 222, 3) := by decide +kernel
theorem dX12_init_597 : decode cX12_init 597 = .ok (.aload_n 0, 1) := by decide +kernel
theorem dX12_init_598 : decode cX12_init 598 = .ok (.bipush 82, 2) := by decide +kernel
theorem dX12_init_600 : decode cX12_init 600 = .ok (.newarray .int, 2) := by decide +kernel
theorem dX12_init_602 : decode cX12_init 602 = .ok (.putfield 225, 3) := by decide +kernel
theorem dX12_init_605 : decode cX12_init 605 = .ok (.aload_n 0, 1) := by decide +kernel
theorem dX12_init_606 : decode cX12_init 606 = .ok (.bipush 82, 2) := by decide +kernel
theorem dX12_init_608 : decode cX12_init 608 = .ok (.newarray .int, 2) := by decide +kernel
theorem dX12_init_610 : decode cX12_init 610 = .ok (.putfield 228, 3) := by decide +kernel
theorem dX12_init_613 : decode cX12_init 613 = .ok (.aload_n 0, 1) := by decide +kernel
theorem dX12_init_614 : decode cX12_init 614 = .ok (.bipush 120, 2) := by decide +kernel
theorem dX12_init_616 : decode cX12_init 616 = .ok (.newarray .int, 2) := by decide +kernel
theorem dX12_init_618 : decode cX12_init 618 = .ok (.putfield 231, 3) := by decide +kernel
theorem dX12_init_621 : decode cX12_init 621 = .ok (.aload_n 0, 1) := by decide +kernel
theorem dX12_init_622 : decode cX12_init 622 = .ok (.bipush 120, 2) := by decide +kernel
theorem dX12_init_624 : decode cX12_init 624 = .ok (.newarray .int, 2) := by decide +kernel
theorem dX12_init_626 : decode cX12_init 626 = .ok (.putfield 234, 3) := by decide +kernel
theorem dX12_init_629 : decode cX12_init 629 = .ok (.aload_n 0, 1) := by decide +kernel
theorem dX12_init_630 : decode cX12_init 630 = .ok (.bipush 120, 2) := by decide +kernel
theorem dX12_init_632 : decode cX12_init 632 = .ok (.newarray .boolean, 2) := by decide +kernel
theorem dX12_init_634 : decode cX12_init 634 = .ok (.putfield 237, 3) := by decide +kernel
theorem dX12_init_637 : decode cX12_init 637 = .ok (.aload_n 0, 1) := by decide +kernel
theorem dX12_init_638 : decode cX12_init 638 = .ok (.sipush 1000, 3) := by decide +kernel
theorem dX12_init_641 : decode cX12_init 641 = .ok (.newarray .byte, 2) := by decide +kernel
theorem dX12_init_643 : decode cX12_init 643 = .ok (.putfield 240, 3) := by decide +kernel
theorem dX12_init_646 : decode cX12_init 646 = .ok (.iconst 0, 1) := by decide +kernel
theorem dX12_init_647 : decode cX12_init 647 = .ok (.istore_n 1, 1) := by decide +kernel
theorem dX12_init_648 : decode cX12_init 648 = .ok (.iload_n 1, 1) := by decide +kernel
theorem dX12_init_649 : decode cX12_init 649 = .ok (.sipush 2400, 3) := by decide +kernel
theorem dX12_init_652 : decode cX12_init 652 = .ok (.if_icmp .ge 18, 3) := by decide +kernel
theorem dX12_init_655 : decode cX12_init 655 = .ok (.aload_n 0, 1) := by decide +kernel
theorem dX12_init_656 : decode cX12_init 656 = .ok (.getfield 7, 3) := by decide +kernel
theorem dX12_init_659 : decode cX12_init 659 = .ok (.iload_n 1, 1) := by decide +kernel
theorem dX12_init_660 : decode cX12_init 660 = .ok (.sipush (-10000), 3) := by decide +kernel
theorem dX12_init_663 : decode cX12_init 663 = .ok (.iastore, 1) := by decide +kernel
theorem dX12_init_664 : decode cX12_init 664 = .ok (.iinc 1 1, 3) := by decide +kernel
theorem dX12_init_667 : decode cX12_init 667 = .ok (.goto (-19), 3) := by decide +kernel
theorem dX12_init_670 : decode cX12_init 670 = .ok (.iconst 0, 1) := by decide +kernel
theorem dX12_init_671 : decode cX12_init 671 = .ok (.istore_n 1, 1) := by decide +kernel
theorem dX12_init_672 : decode cX12_init 672 = .ok (.iload_n 1, 1) := by decide +kernel
theorem dX12_init_673 : decode cX12_init 673 = .ok (.iconst 3, 1) := by decide +kernel
theorem dX12_init_674 : decode cX12_init 674 = .ok (.if_icmp .ge 16, 3) := by decide +kernel
theorem dX12_init_677 : decode cX12_init 677 = .ok (.aload_n 0, 1) := by decide +kernel
theorem dX12_init_678 : decode cX12_init 678 = .ok (.getfield 155, 3) := by decide +kernel
theorem dX12_init_681 : decode cX12_init 681 = .ok (.iload_n 1, 1) := by decide +kernel
theorem dX12_init_682 : decode cX12_init 682 = .ok (.iconst 1, 1) := by decide +kernel
theorem dX12_init_683 : decode cX12_init 683 = .ok (.iastore, 1) := by decide +kernel
theorem dX12_init_684 : decode cX12_init 684 = .ok (.iinc 1 1, 3) := by decide +kernel
theorem dX12_init_687 : decode cX12_init 687 = .ok (.goto (-15), 3) := by decide +kernel
theorem dX12_init_690 : decode cX12_init 690 = .ok (.return_, 1) := by decide +kernel
theorem dX12_in_0 : decode cX12_in 0 = .ok (.lload_n 0, 1) := by decide +kernel
theorem dX12_in_1 : decode cX12_in 1 = .ok (.lload_n 2, 1) := by decide +kernel
theorem dX12_in_2 : decode cX12_in 2 = .ok (.lcmp, 1) := by decide +kernel
theorem dX12_in_3 : decode cX12_in 3 = .ok (.ifCond .lt 14, 3) := by decide +kernel
theorem dX12_in_6 : decode cX12_in 6 = .ok (.lload_n 0, 1) := by decide +kernel
theorem dX12_in_7 : decode cX12_in 7 = .ok (.lload 4, 2) := by decide +kernel
theorem dX12_in_9 : decode cX12_in 9 = .ok (.lcmp, 1) := by decide +kernel
theorem dX12_in_10 : decode cX12_in 10 = .ok (.ifCond .gt 7, 3) := by decide +kernel
theorem dX12_in_13 : decode cX12_in 13 = .ok (.iconst 1, 1) := by decide +kernel
theorem dX12_in_14 : decode cX12_in 14 = .ok (.goto 4, 3) := by decide +kernel
theorem dX12_in_17 : decode cX12_in 17 = .ok (.iconst 0, 1) := by decide +kernel
theorem dX12_in_18 : decode cX12_in 18 = .ok (.ireturn, 1) := by decide +kernel
theorem dX12_see_0 : decode cX12_see 0 = .ok (.iload_n 1, 1) := by decide +kernel
theorem dX12_see_1 : decode cX12_see 1 = .ok (.i2l, 1) := by decide +kernel
theorem dX12_see_2 : decode cX12_see 2 = .ok (.lconst 0, 1) := by decide +kernel
theorem dX12_see_3 : decode cX12_see 3 = .ok (.ldc2_w 243, 3) := by decide +kernel
theorem dX12_see_6 : decode cX12_see 6 = .ok (.invokestatic 245, 3) := by decide +kernel
theorem dX12_see_9 : decode cX12_see 9 = .ok (.ifCond .eq 31, 3) := by decide +kernel
theorem dX12_see_12 : decode cX12_see 12 = .ok (.iload_n 2, 1) := by decide +kernel
theorem dX12_see_13 : decode cX12_see 13 = .ok (.i2l, 1) := by decide +kernel
theorem dX12_see_14 : decode cX12_see 14 = .ok (.lconst 0, 1) := by decide +kernel
theorem dX12_see_15 : decode cX12_see 15 = .ok (.aload_n 0, 1) := by decide +kernel
theorem dX12_see_16 : decode cX12_see 16 = .ok (.getfield 249, 3) := by decide +kernel
theorem dX12_see_19 : decode cX12_see 19 = .ok (.i2l, 1) := by decide +kernel
theorem dX12_see_20 : decode cX12_see 20 = .ok (.invokestatic 245, 3) := by decide +kernel
theorem dX12_see_23 : decode cX12_see 23 = .ok (.ifCond .eq 17, 3) := by decide +kernel
theorem dX12_see_26 : decode cX12_see 26 = .ok (.iload_n 3, 1) := by decide +kernel
theorem dX12_see_27 : decode cX12_see 27 = .ok (.i2l, 1) := by decide +kernel
theorem dX12_see_28 : decode cX12_see 28 = .ok (.ldc2_w 252, 3) := by decide +kernel
theorem dX12_see_31 : decode cX12_see 31 = .ok (.ldc2_w 254, 3) := by decide +kernel
theorem dX12_see_34 : decode cX12_see 34 = .ok (.invokestatic 245, 3) := by decide +kernel
theorem dX12_see_37 : decode cX12_see 37 = .ok (.ifCond .ne 5, 3) := by decide +kernel
theorem dX12_see_40 : decode cX12_see 40 = .ok (.iconst 0, 1) := by decide +kernel
theorem dX12_see_41 : decode cX12_see 41 = .ok (.ireturn, 1) := by decide +kernel
theorem dX12_see_42 : decode cX12_see 42 = .ok (.aload_n 0, 1) := by decide +kernel
theorem dX12_see_43 : decode cX12_see 43 = .ok (.getfield 7, 3) := by decide +kernel
theorem dX12_see_46 : decode cX12_see 46 = .ok (.sipush 400, 3) := by decide +kernel
theorem dX12_see_49 : decode cX12_see 49 = .ok (.iload_n 1, 1) := by decide +kernel
theorem dX12_see_50 : decode cX12_see 50 = .ok (.imul, 1) := by decide +kernel
theorem dX12_see_51 : decode cX12_see 51 = .ok (.iload_n 2, 1) := by decide +kernel
theorem dX12_see_52 : decode cX12_see 52 = .ok (.iadd, 1) := by decide +kernel
theorem dX12_see_53 : decode cX12_see 53 = .ok (.iload_n 3, 1) := by decide +kernel
theorem dX12_see_54 : decode cX12_see 54 = .ok (.iastore, 1) := by decide +kernel
theorem dX12_see_55 : decode cX12_see 55 = .ok (.iconst 1, 1) := by decide +kernel
theorem dX12_see_56 : decode cX12_see 56 = .ok (.ireturn, 1) := by decide +kernel
theorem dX12_thingOn_0 : decode cX12_thingOn 0 = .ok (.iload_n 2, 1) := by decide +kernel
theorem dX12_thingOn_1 : decode cX12_thingOn 1 = .ok (.istore_n 3, 1) := by decide +kernel
theorem dX12_thingOn_2 : decode cX12_thingOn 2 = .ok (.iload_n 3, 1) := by decide +kernel
theorem dX12_thingOn_3 : decode cX12_thingOn 3 = .ok (.ifCond .lt 40, 3) := by decide +kernel
theorem dX12_thingOn_6 : decode cX12_thingOn 6 = .ok (.aload_n 0, 1) := by decide +kernel
theorem dX12_thingOn_7 : decode cX12_thingOn 7 = .ok (.getfield 7, 3) := by decide +kernel
theorem dX12_thingOn_10 : decode cX12_thingOn 10 = .ok (.sipush 400, 3) := by decide +kernel
theorem dX12_thingOn_13 : decode cX12_thingOn 13 = .ok (.iload_n 1, 1) := by decide +kernel
theorem dX12_thingOn_14 : decode cX12_thingOn 14 = .ok (.imul, 1) := by decide +kernel
theorem dX12_thingOn_15 : decode cX12_thingOn 15 = .ok (.iload_n 3, 1) := by decide +kernel
theorem dX12_thingOn_16 : decode cX12_thingOn 16 = .ok (.iadd, 1) := by decide +kernel
theorem dX12_thingOn_17 : decode cX12_thingOn 17 = .ok (.iaload, 1) := by decide +kernel
theorem dX12_thingOn_18 : decode cX12_thingOn 18 = .ok (.sipush (-10000), 3) := by decide +kernel
theorem dX12_thingOn_21 : decode cX12_thingOn 21 = .ok (.if_icmp .le 16, 3) := by decide +kernel
theorem dX12_thingOn_24 : decode cX12_thingOn 24 = .ok (.aload_n 0, 1) := by decide +kernel
theorem dX12_thingOn_25 : decode cX12_thingOn 25 = .ok (.getfield 7, 3) := by decide +kernel
theorem dX12_thingOn_28 : decode cX12_thingOn 28 = .ok (.sipush 400, 3) := by decide +kernel
theorem dX12_thingOn_31 : decode cX12_thingOn 31 = .ok (.iload_n 1, 1) := by decide +kernel
theorem dX12_thingOn_32 : decode cX12_thingOn 32 = .ok (.imul, 1) := by decide +kernel
theorem dX12_thingOn_33 : decode cX12_thingOn 33 = .ok (.iload_n 3, 1) := by decide +kernel
theorem dX12_thingOn_34 : decode cX12_thingOn 34 = .ok (.iadd, 1) := by decide +kernel
theorem dX12_thingOn_35 : decode cX12_thingOn 35 = .ok (.iaload, 1) := by decide +kernel
