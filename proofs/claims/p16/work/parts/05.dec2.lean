theorem dX12_thingOn_36 : decode cX12_thingOn 36 = .ok (.ireturn, 1) := by decide +kernel
theorem dX12_thingOn_37 : decode cX12_thingOn 37 = .ok (.iinc 3 (-1), 3) := by decide +kernel
theorem dX12_thingOn_40 : decode cX12_thingOn 40 = .ok (.goto (-38), 3) := by decide +kernel
theorem dX12_thingOn_43 : decode cX12_thingOn 43 = .ok (.iconst 0, 1) := by decide +kernel
theorem dX12_thingOn_44 : decode cX12_thingOn 44 = .ok (.ireturn, 1) := by decide +kernel
theorem dX12_seen_0 : decode cX12_seen 0 = .ok (.iload_n 1, 1) := by decide +kernel
theorem dX12_seen_1 : decode cX12_seen 1 = .ok (.i2l, 1) := by decide +kernel
theorem dX12_seen_2 : decode cX12_seen 2 = .ok (.lconst 0, 1) := by decide +kernel
theorem dX12_seen_3 : decode cX12_seen 3 = .ok (.ldc2_w 243, 3) := by decide +kernel
theorem dX12_seen_6 : decode cX12_seen 6 = .ok (.invokestatic 245, 3) := by decide +kernel
theorem dX12_seen_9 : decode cX12_seen 9 = .ok (.ifCond .eq 24, 3) := by decide +kernel
theorem dX12_seen_12 : decode cX12_seen 12 = .ok (.iload_n 2, 1) := by decide +kernel
theorem dX12_seen_13 : decode cX12_seen 13 = .ok (.i2l, 1) := by decide +kernel
theorem dX12_seen_14 : decode cX12_seen 14 = .ok (.lconst 0, 1) := by decide +kernel
theorem dX12_seen_15 : decode cX12_seen 15 = .ok (.ldc2_w 256, 3) := by decide +kernel
theorem dX12_seen_18 : decode cX12_seen 18 = .ok (.invokestatic 245, 3) := by decide +kernel
theorem dX12_seen_21 : decode cX12_seen 21 = .ok (.ifCond .eq 12, 3) := by decide +kernel
theorem dX12_seen_24 : decode cX12_seen 24 = .ok (.aload_n 0, 1) := by decide +kernel
theorem dX12_seen_25 : decode cX12_seen 25 = .ok (.iload_n 1, 1) := by decide +kernel
theorem dX12_seen_26 : decode cX12_seen 26 = .ok (.iload_n 2, 1) := by decide +kernel
theorem dX12_seen_27 : decode cX12_seen 27 = .ok (.invokevirtual 258, 3) := by decide +kernel
theorem dX12_seen_30 : decode cX12_seen 30 = .ok (.goto 6, 3) := by decide +kernel
theorem dX12_seen_33 : decode cX12_seen 33 = .ok (.sipush (-10000), 3) := by decide +kernel
theorem dX12_seen_36 : decode cX12_seen 36 = .ok (.ireturn, 1) := by decide +kernel
theorem dX12_four_0 : decode cX12_four 0 = .ok (.bipush 24, 2) := by decide +kernel
theorem dX12_four_2 : decode cX12_four 2 = .ok (.istore_n 2, 1) := by decide +kernel
theorem dX12_four_3 : decode cX12_four 3 = .ok (.iload_n 2, 1) := by decide +kernel
theorem dX12_four_4 : decode cX12_four 4 = .ok (.ifCond .lt 32, 3) := by decide +kernel
theorem dX12_four_7 : decode cX12_four 7 = .ok (.aload_n 0, 1) := by decide +kernel
theorem dX12_four_8 : decode cX12_four 8 = .ok (.getfield 13, 3) := by decide +kernel
theorem dX12_four_11 : decode cX12_four 11 = .ok (.aload_n 0, 1) := by decide +kernel
theorem dX12_four_12 : decode cX12_four 12 = .ok (.getfield 262, 3) := by decide +kernel
theorem dX12_four_15 : decode cX12_four 15 = .ok (.iload_n 1, 1) := by decide +kernel
theorem dX12_four_16 : decode cX12_four 16 = .ok (.iload_n 2, 1) := by decide +kernel
theorem dX12_four_17 : decode cX12_four 17 = .ok (.ishr, 1) := by decide +kernel
theorem dX12_four_18 : decode cX12_four 18 = .ok (.i2b, 1) := by decide +kernel
theorem dX12_four_19 : decode cX12_four 19 = .ok (.bastore, 1) := by decide +kernel
theorem dX12_four_20 : decode cX12_four 20 = .ok (.aload_n 0, 1) := by decide +kernel
theorem dX12_four_21 : decode cX12_four 21 = .ok (.dup, 1) := by decide +kernel
theorem dX12_four_22 : decode cX12_four 22 = .ok (.getfield 262, 3) := by decide +kernel
theorem dX12_four_25 : decode cX12_four 25 = .ok (.iconst 1, 1) := by decide +kernel
theorem dX12_four_26 : decode cX12_four 26 = .ok (.iadd, 1) := by decide +kernel
theorem dX12_four_27 : decode cX12_four 27 = .ok (.putfield 262, 3) := by decide +kernel
theorem dX12_four_30 : decode cX12_four 30 = .ok (.iinc 2 (-8), 3) := by decide +kernel
theorem dX12_four_33 : decode cX12_four 33 = .ok (.goto (-30), 3) := by decide +kernel
theorem dX12_four_36 : decode cX12_four 36 = .ok (.return_, 1) := by decide +kernel
theorem dX12_feed_0 : decode cX12_feed 0 = .ok (.aload_n 0, 1) := by decide +kernel
theorem dX12_feed_1 : decode cX12_feed 1 = .ok (.getfield 262, 3) := by decide +kernel
theorem dX12_feed_4 : decode cX12_feed 4 = .ok (.bipush 20, 2) := by decide +kernel
theorem dX12_feed_6 : decode cX12_feed 6 = .ok (.iadd, 1) := by decide +kernel
theorem dX12_feed_7 : decode cX12_feed 7 = .ok (.sipush 400, 3) := by decide +kernel
theorem dX12_feed_10 : decode cX12_feed 10 = .ok (.if_icmp .le 5, 3) := by decide +kernel
theorem dX12_feed_13 : decode cX12_feed 13 = .ok (.iconst (-1), 1) := by decide +kernel
theorem dX12_feed_14 : decode cX12_feed 14 = .ok (.ireturn, 1) := by decide +kernel
theorem dX12_feed_15 : decode cX12_feed 15 = .ok (.aload_n 0, 1) := by decide +kernel
theorem dX12_feed_16 : decode cX12_feed 16 = .ok (.iload_n 1, 1) := by decide +kernel
theorem dX12_feed_17 : decode cX12_feed 17 = .ok (.invokevirtual 265, 3) := by decide +kernel
theorem dX12_feed_20 : decode cX12_feed 20 = .ok (.aload_n 0, 1) := by decide +kernel
theorem dX12_feed_21 : decode cX12_feed 21 = .ok (.iload_n 2, 1) := by decide +kernel
theorem dX12_feed_22 : decode cX12_feed 22 = .ok (.invokevirtual 265, 3) := by decide +kernel
theorem dX12_feed_25 : decode cX12_feed 25 = .ok (.aload_n 0, 1) := by decide +kernel
theorem dX12_feed_26 : decode cX12_feed 26 = .ok (.iload_n 3, 1) := by decide +kernel
theorem dX12_feed_27 : decode cX12_feed 27 = .ok (.invokevirtual 265, 3) := by decide +kernel
theorem dX12_feed_30 : decode cX12_feed 30 = .ok (.aload_n 0, 1) := by decide +kernel
theorem dX12_feed_31 : decode cX12_feed 31 = .ok (.iload 4, 2) := by decide +kernel
theorem dX12_feed_33 : decode cX12_feed 33 = .ok (.invokevirtual 265, 3) := by decide +kernel
theorem dX12_feed_36 : decode cX12_feed 36 = .ok (.aload_n 0, 1) := by decide +kernel
theorem dX12_feed_37 : decode cX12_feed 37 = .ok (.iload 5, 2) := by decide +kernel
theorem dX12_feed_39 : decode cX12_feed 39 = .ok (.invokevirtual 265, 3) := by decide +kernel
theorem dX12_feed_42 : decode cX12_feed 42 = .ok (.aload_n 0, 1) := by decide +kernel
theorem dX12_feed_43 : decode cX12_feed 43 = .ok (.getfield 262, 3) := by decide +kernel
theorem dX12_feed_46 : decode cX12_feed 46 = .ok (.ireturn, 1) := by decide +kernel
theorem dX12_end_0 : decode cX12_end 0 = .ok (.iload_n 1, 1) := by decide +kernel
theorem dX12_end_1 : decode cX12_end 1 = .ok (.ifCond .lt 11, 3) := by decide +kernel
theorem dX12_end_4 : decode cX12_end 4 = .ok (.iload_n 1, 1) := by decide +kernel
theorem dX12_end_5 : decode cX12_end 5 = .ok (.aload_n 0, 1) := by decide +kernel
theorem dX12_end_6 : decode cX12_end 6 = .ok (.getfield 262, 3) := by decide +kernel
theorem dX12_end_9 : decode cX12_end 9 = .ok (.if_icmp .le 5, 3) := by decide +kernel
theorem dX12_end_12 : decode cX12_end 12 = .ok (.iconst (-1), 1) := by decide +kernel
theorem dX12_end_13 : decode cX12_end 13 = .ok (.ireturn, 1) := by decide +kernel
theorem dX12_end_14 : decode cX12_end 14 = .ok (.aload_n 0, 1) := by decide +kernel
theorem dX12_end_15 : decode cX12_end 15 = .ok (.iload_n 1, 1) := by decide +kernel
theorem dX12_end_16 : decode cX12_end 16 = .ok (.putfield 262, 3) := by decide +kernel
theorem dX12_end_19 : decode cX12_end 19 = .ok (.iload_n 1, 1) := by decide +kernel
theorem dX12_end_20 : decode cX12_end 20 = .ok (.ireturn, 1) := by decide +kernel
theorem dX12_fails_0 : decode cX12_fails 0 = .ok (.aload_n 0, 1) := by decide +kernel
theorem dX12_fails_1 : decode cX12_fails 1 = .ok (.getfield 269, 3) := by decide +kernel
theorem dX12_fails_4 : decode cX12_fails 4 = .ok (.ifCond .ne 15, 3) := by decide +kernel
theorem dX12_fails_7 : decode cX12_fails 7 = .ok (.aload_n 0, 1) := by decide +kernel
theorem dX12_fails_8 : decode cX12_fails 8 = .ok (.iconst 1, 1) := by decide +kernel
theorem dX12_fails_9 : decode cX12_fails 9 = .ok (.bipush 8, 2) := by decide +kernel
theorem dX12_fails_11 : decode cX12_fails 11 = .ok (.iload_n 2, 1) := by decide +kernel
theorem dX12_fails_12 : decode cX12_fails 12 = .ok (.imul, 1) := by decide +kernel
theorem dX12_fails_13 : decode cX12_fails 13 = .ok (.iadd, 1) := by decide +kernel
theorem dX12_fails_14 : decode cX12_fails 14 = .ok (.iload_n 1, 1) := by decide +kernel
theorem dX12_fails_15 : decode cX12_fails 15 = .ok (.iadd, 1) := by decide +kernel
theorem dX12_fails_16 : decode cX12_fails 16 = .ok (.putfield 269, 3) := by decide +kernel
theorem dX12_fails_19 : decode cX12_fails 19 = .ok (.iconst 0, 1) := by decide +kernel
theorem dX12_fails_20 : decode cX12_fails 20 = .ok (.ireturn, 1) := by decide +kernel
theorem dX12_see__0 : decode cX12_see_ 0 = .ok (.aload_n 0, 1) := by decide +kernel
theorem dX12_see__1 : decode cX12_see_ 1 = .ok (.getfield 272, 3) := by decide +kernel
theorem dX12_see__4 : decode cX12_see_ 4 = .ok (.aload_n 0, 1) := by decide +kernel
theorem dX12_see__5 : decode cX12_see_ 5 = .ok (.getfield 262, 3) := by decide +kernel
theorem dX12_see__8 : decode cX12_see_ 8 = .ok (.if_icmp .ge 30, 3) := by decide +kernel
theorem dX12_see__11 : decode cX12_see_ 11 = .ok (.aload_n 0, 1) := by decide +kernel
theorem dX12_see__12 : decode cX12_see_ 12 = .ok (.getfield 13, 3) := by decide +kernel
theorem dX12_see__15 : decode cX12_see_ 15 = .ok (.aload_n 0, 1) := by decide +kernel
theorem dX12_see__16 : decode cX12_see_ 16 = .ok (.getfield 272, 3) := by decide +kernel
theorem dX12_see__19 : decode cX12_see_ 19 = .ok (.baload, 1) := by decide +kernel
theorem dX12_see__20 : decode cX12_see_ 20 = .ok (.bipush 32, 2) := by decide +kernel
theorem dX12_see__22 : decode cX12_see_ 22 = .ok (.if_icmp .ne 16, 3) := by decide +kernel
theorem dX12_see__25 : decode cX12_see_ 25 = .ok (.aload_n 0, 1) := by decide +kernel
theorem dX12_see__26 : decode cX12_see_ 26 = .ok (.dup, 1) := by decide +kernel
theorem dX12_see__27 : decode cX12_see_ 27 = .ok (.getfield 272, 3) := by decide +kernel
theorem dX12_see__30 : decode cX12_see_ 30 = .ok (.iconst 1, 1) := by decide +kernel
theorem dX12_see__31 : decode cX12_see_ 31 = .ok (.iadd, 1) := by decide +kernel
theorem dX12_see__32 : decode cX12_see_ 32 = .ok (.putfield 272, 3) := by decide +kernel
theorem dX12_see__35 : decode cX12_see_ 35 = .ok (.goto (-35), 3) := by decide +kernel
theorem dX12_see__38 : decode cX12_see_ 38 = .ok (.aload_n 0, 1) := by decide +kernel
theorem dX12_see__39 : decode cX12_see_ 39 = .ok (.getfield 272, 3) := by decide +kernel
theorem dX12_see__42 : decode cX12_see_ 42 = .ok (.aload_n 0, 1) := by decide +kernel
theorem dX12_see__43 : decode cX12_see_ 43 = .ok (.getfield 262, 3) := by decide +kernel
theorem dX12_see__46 : decode cX12_see_ 46 = .ok (.if_icmp .ge 19, 3) := by decide +kernel
theorem dX12_see__49 : decode cX12_see_ 49 = .ok (.aload_n 0, 1) := by decide +kernel
theorem dX12_see__50 : decode cX12_see_ 50 = .ok (.getfield 13, 3) := by decide +kernel
theorem dX12_see__53 : decode cX12_see_ 53 = .ok (.aload_n 0, 1) := by decide +kernel
theorem dX12_see__54 : decode cX12_see_ 54 = .ok (.getfield 272, 3) := by decide +kernel
theorem dX12_see__57 : decode cX12_see_ 57 = .ok (.baload, 1) := by decide +kernel
theorem dX12_see__58 : decode cX12_see_ 58 = .ok (.sipush 255, 3) := by decide +kernel
theorem dX12_see__61 : decode cX12_see_ 61 = .ok (.iand, 1) := by decide +kernel
theorem dX12_see__62 : decode cX12_see_ 62 = .ok (.goto 4, 3) := by decide +kernel
theorem dX12_see__65 : decode cX12_see_ 65 = .ok (.iconst (-1), 1) := by decide +kernel
theorem dX12_see__66 : decode cX12_see_ 66 = .ok (.ireturn, 1) := by decide +kernel
theorem dX12_isDigit_0 : decode cX12_isDigit 0 = .ok (.iload_n 1, 1) := by decide +kernel
theorem dX12_isDigit_1 : decode cX12_isDigit 1 = .ok (.aload_n 0, 1) := by decide +kernel
theorem dX12_isDigit_2 : decode cX12_isDigit 2 = .ok (.getfield 262, 3) := by decide +kernel
theorem dX12_isDigit_5 : decode cX12_isDigit 5 = .ok (.if_icmp .ge 29, 3) := by decide +kernel
theorem dX12_isDigit_8 : decode cX12_isDigit 8 = .ok (.aload_n 0, 1) := by decide +kernel
theorem dX12_isDigit_9 : decode cX12_isDigit 9 = .ok (.getfield 13, 3) := by decide +kernel
theorem dX12_isDigit_12 : decode cX12_isDigit 12 = .ok (.iload_n 1, 1) := by decide +kernel
theorem dX12_isDigit_13 : decode cX12_isDigit 13 = .ok (.baload, 1) := by decide +kernel
theorem dX12_isDigit_14 : decode cX12_isDigit 14 = .ok (.bipush 48, 2) := by decide +kernel
theorem dX12_isDigit_16 : decode cX12_isDigit 16 = .ok (.if_icmp .lt 18, 3) := by decide +kernel
theorem dX12_isDigit_19 : decode cX12_isDigit 19 = .ok (.aload_n 0, 1) := by decide +kernel
theorem dX12_isDigit_20 : decode cX12_isDigit 20 = .ok (.getfield 13, 3) := by decide +kernel
theorem dX12_isDigit_23 : decode cX12_isDigit 23 = .ok (.iload_n 1, 1) := by decide +kernel
theorem dX12_isDigit_24 : decode cX12_isDigit 24 = .ok (.baload, 1) := by decide +kernel
theorem dX12_isDigit_25 : decode cX12_isDigit 25 = .ok (.bipush 57, 2) := by decide +kernel
theorem dX12_isDigit_27 : decode cX12_isDigit 27 = .ok (.if_icmp .gt 7, 3) := by decide +kernel
theorem dX12_isDigit_30 : decode cX12_isDigit 30 = .ok (.iconst 1, 1) := by decide +kernel
theorem dX12_isDigit_31 : decode cX12_isDigit 31 = .ok (.goto 4, 3) := by decide +kernel
theorem dX12_isDigit_34 : decode cX12_isDigit 34 = .ok (.iconst 0, 1) := by decide +kernel
theorem dX12_isDigit_35 : decode cX12_isDigit 35 = .ok (.ireturn, 1) := by decide +kernel
theorem dX12_isLetter_0 : decode cX12_isLetter 0 = .ok (.iload_n 1, 1) := by decide +kernel
theorem dX12_isLetter_1 : decode cX12_isLetter 1 = .ok (.aload_n 0, 1) := by decide +kernel
theorem dX12_isLetter_2 : decode cX12_isLetter 2 = .ok (.getfield 262, 3) := by decide +kernel
theorem dX12_isLetter_5 : decode cX12_isLetter 5 = .ok (.if_icmp .ge 29, 3) := by decide +kernel
theorem dX12_isLetter_8 : decode cX12_isLetter 8 = .ok (.aload_n 0, 1) := by decide +kernel
theorem dX12_isLetter_9 : decode cX12_isLetter 9 = .ok (.getfield 13, 3) := by decide +kernel
theorem dX12_isLetter_12 : decode cX12_isLetter 12 = .ok (.iload_n 1, 1) := by decide +kernel
theorem dX12_isLetter_13 : decode cX12_isLetter 13 = .ok (.baload, 1) := by decide +kernel
theorem dX12_isLetter_14 : decode cX12_isLetter 14 = .ok (.bipush 97, 2) := by decide +kernel
theorem dX12_isLetter_16 : decode cX12_isLetter 16 = .ok (.if_icmp .lt 18, 3) := by decide +kernel
theorem dX12_isLetter_19 : decode cX12_isLetter 19 = .ok (.aload_n 0, 1) := by decide +kernel
theorem dX12_isLetter_20 : decode cX12_isLetter 20 = .ok (.getfield 13, 3) := by decide +kernel
theorem dX12_isLetter_23 : decode cX12_isLetter 23 = .ok (.iload_n 1, 1) := by decide +kernel
theorem dX12_isLetter_24 : decode cX12_isLetter 24 = .ok (.baload, 1) := by decide +kernel
theorem dX12_isLetter_25 : decode cX12_isLetter 25 = .ok (.bipush 122, 2) := by decide +kernel
theorem dX12_isLetter_27 : decode cX12_isLetter 27 = .ok (.if_icmp .gt 7, 3) := by decide +kernel
theorem dX12_isLetter_30 : decode cX12_isLetter 30 = .ok (.iconst 1, 1) := by decide +kernel
theorem dX12_isLetter_31 : decode cX12_isLetter 31 = .ok (.goto 4, 3) := by decide +kernel
theorem dX12_isLetter_34 : decode cX12_isLetter 34 = .ok (.iconst 0, 1) := by decide +kernel
theorem dX12_isLetter_35 : decode cX12_isLetter 35 = .ok (.ireturn, 1) := by decide +kernel
theorem dX12_takes_0 : decode cX12_takes 0 = .ok (.aload_n 0, 1) := by decide +kernel
theorem dX12_takes_1 : decode cX12_takes 1 = .ok (.invokevirtual 275, 3) := by decide +kernel
theorem dX12_takes_4 : decode cX12_takes 4 = .ok (.iload_n 1, 1) := by decide +kernel
theorem dX12_takes_5 : decode cX12_takes 5 = .ok (.if_icmp .eq 13, 3) := by decide +kernel
theorem dX12_takes_8 : decode cX12_takes 8 = .ok (.aload_n 0, 1) := by decide +kernel
theorem dX12_takes_9 : decode cX12_takes 9 = .ok (.iconst 0, 1) := by decide +kernel
theorem dX12_takes_10 : decode cX12_takes 10 = .ok (.aload_n 0, 1) := by decide +kernel
theorem dX12_takes_11 : decode cX12_takes 11 = .ok (.getfield 272, 3) := by decide +kernel
theorem dX12_takes_14 : decode cX12_takes 14 = .ok (.invokevirtual 279, 3) := by decide +kernel
theorem dX12_takes_17 : decode cX12_takes 17 = .ok (.ireturn, 1) := by decide +kernel
theorem dX12_takes_18 : decode cX12_takes 18 = .ok (.aload_n 0, 1) := by decide +kernel
theorem dX12_takes_19 : decode cX12_takes 19 = .ok (.dup, 1) := by decide +kernel
theorem dX12_takes_20 : decode cX12_takes 20 = .ok (.getfield 272, 3) := by decide +kernel
theorem dX12_takes_23 : decode cX12_takes 23 = .ok (.iconst 1, 1) := by decide +kernel
theorem dX12_takes_24 : decode cX12_takes 24 = .ok (.iadd, 1) := by decide +kernel
theorem dX12_takes_25 : decode cX12_takes 25 = .ok (.putfield 272, 3) := by decide +kernel
theorem dX12_takes_28 : decode cX12_takes 28 = .ok (.iconst 1, 1) := by decide +kernel
theorem dX12_takes_29 : decode cX12_takes 29 = .ok (.ireturn, 1) := by decide +kernel
theorem dX12_reads_0 : decode cX12_reads 0 = .ok (.aload_n 0, 1) := by decide +kernel
theorem dX12_reads_1 : decode cX12_reads 1 = .ok (.invokevirtual 275, 3) := by decide +kernel
theorem dX12_reads_4 : decode cX12_reads 4 = .ok (.pop, 1) := by decide +kernel
theorem dX12_reads_5 : decode cX12_reads 5 = .ok (.aload_n 0, 1) := by decide +kernel
theorem dX12_reads_6 : decode cX12_reads 6 = .ok (.aload_n 0, 1) := by decide +kernel
theorem dX12_reads_7 : decode cX12_reads 7 = .ok (.getfield 272, 3) := by decide +kernel
theorem dX12_reads_10 : decode cX12_reads 10 = .ok (.invokevirtual 283, 3) := by decide +kernel
theorem dX12_reads_13 : decode cX12_reads 13 = .ok (.ifCond .ne 13, 3) := by decide +kernel
theorem dX12_reads_16 : decode cX12_reads 16 = .ok (.aload_n 0, 1) := by decide +kernel
theorem dX12_reads_17 : decode cX12_reads 17 = .ok (.iconst 0, 1) := by decide +kernel
theorem dX12_reads_18 : decode cX12_reads 18 = .ok (.aload_n 0, 1) := by decide +kernel
theorem dX12_reads_19 : decode cX12_reads 19 = .ok (.getfield 272, 3) := by decide +kernel
theorem dX12_reads_22 : decode cX12_reads 22 = .ok (.invokevirtual 279, 3) := by decide +kernel
theorem dX12_reads_25 : decode cX12_reads 25 = .ok (.ireturn, 1) := by decide +kernel
theorem dX12_reads_26 : decode cX12_reads 26 = .ok (.aload_n 0, 1) := by decide +kernel
theorem dX12_reads_27 : decode cX12_reads 27 = .ok (.getfield 272, 3) := by decide +kernel
theorem dX12_reads_30 : decode cX12_reads 30 = .ok (.istore_n 1, 1) := by decide +kernel
theorem dX12_reads_31 : decode cX12_reads 31 = .ok (.iconst 0, 1) := by decide +kernel
theorem dX12_reads_32 : decode cX12_reads 32 = .ok (.istore_n 2, 1) := by decide +kernel
theorem dX12_reads_33 : decode cX12_reads 33 = .ok (.aload_n 0, 1) := by decide +kernel
theorem dX12_reads_34 : decode cX12_reads 34 = .ok (.aload_n 0, 1) := by decide +kernel
theorem dX12_reads_35 : decode cX12_reads 35 = .ok (.getfield 272, 3) := by decide +kernel
theorem dX12_reads_38 : decode cX12_reads 38 = .ok (.invokevirtual 283, 3) := by decide +kernel
theorem dX12_reads_41 : decode cX12_reads 41 = .ok (.ifCond .eq 44, 3) := by decide +kernel
theorem dX12_reads_44 : decode cX12_reads 44 = .ok (.aload_n 0, 1) := by decide +kernel
theorem dX12_reads_45 : decode cX12_reads 45 = .ok (.getfield 272, 3) := by decide +kernel
theorem dX12_reads_48 : decode cX12_reads 48 = .ok (.iload_n 1, 1) := by decide +kernel
theorem dX12_reads_49 : decode cX12_reads 49 = .ok (.isub, 1) := by decide +kernel
theorem dX12_reads_50 : decode cX12_reads 50 = .ok (.iconst 5, 1) := by decide +kernel
theorem dX12_reads_51 : decode cX12_reads 51 = .ok (.if_icmp .ge 21, 3) := by decide +kernel
theorem dX12_reads_54 : decode cX12_reads 54 = .ok (.bipush 10, 2) := by decide +kernel
theorem dX12_reads_56 : decode cX12_reads 56 = .ok (.iload_n 2, 1) := by decide +kernel
theorem dX12_reads_57 : decode cX12_reads 57 = .ok (.imul, 1) := by decide +kernel
theorem dX12_reads_58 : decode cX12_reads 58 = .ok (.aload_n 0, 1) := by decide +kernel
theorem dX12_reads_59 : decode cX12_reads 59 = .ok (.getfield 13, 3) := by decide +kernel
theorem dX12_reads_62 : decode cX12_reads 62 = .ok (.aload_n 0, 1) := by decide +kernel
theorem dX12_reads_63 : decode cX12_reads 63 = .ok (.getfield 272, 3) := by decide +kernel
theorem dX12_reads_66 : decode cX12_reads 66 = .ok (.baload, 1) := by decide +kernel
theorem dX12_reads_67 : decode cX12_reads 67 = .ok (.iadd, 1) := by decide +kernel
theorem dX12_reads_68 : decode cX12_reads 68 = .ok (.bipush 48, 2) := by decide +kernel
theorem dX12_reads_70 : decode cX12_reads 70 = .ok (.isub, 1) := by decide +kernel
theorem dX12_reads_71 : decode cX12_reads 71 = .ok (.istore_n 2, 1) := by decide +kernel
theorem dX12_reads_72 : decode cX12_reads 72 = .ok (.aload_n 0, 1) := by decide +kernel
theorem dX12_reads_73 : decode cX12_reads 73 = .ok (.dup, 1) := by decide +kernel
theorem dX12_reads_74 : decode cX12_reads 74 = .ok (.getfield 272, 3) := by decide +kernel
theorem dX12_reads_77 : decode cX12_reads 77 = .ok (.iconst 1, 1) := by decide +kernel
theorem dX12_reads_78 : decode cX12_reads 78 = .ok (.iadd, 1) := by decide +kernel
theorem dX12_reads_79 : decode cX12_reads 79 = .ok (.putfield 272, 3) := by decide +kernel
theorem dX12_reads_82 : decode cX12_reads 82 = .ok (.goto (-49), 3) := by decide +kernel
theorem dX12_reads_85 : decode cX12_reads 85 = .ok (.aload_n 0, 1) := by decide +kernel
theorem dX12_reads_86 : decode cX12_reads 86 = .ok (.iload_n 2, 1) := by decide +kernel
theorem dX12_reads_87 : decode cX12_reads 87 = .ok (.putfield 287, 3) := by decide +kernel
theorem dX12_reads_90 : decode cX12_reads 90 = .ok (.aload_n 0, 1) := by decide +kernel
theorem dX12_reads_91 : decode cX12_reads 91 = .ok (.getfield 272, 3) := by decide +kernel
theorem dX12_reads_94 : decode cX12_reads 94 = .ok (.iload_n 1, 1) := by decide +kernel
theorem dX12_reads_95 : decode cX12_reads 95 = .ok (.isub, 1) := by decide +kernel
theorem dX12_reads_96 : decode cX12_reads 96 = .ok (.iconst 5, 1) := by decide +kernel
theorem dX12_reads_97 : decode cX12_reads 97 = .ok (.if_icmp .le 12, 3) := by decide +kernel
theorem dX12_reads_100 : decode cX12_reads 100 = .ok (.aload_n 0, 1) := by decide +kernel
theorem dX12_reads_101 : decode cX12_reads 101 = .ok (.iconst 1, 1) := by decide +kernel
theorem dX12_reads_102 : decode cX12_reads 102 = .ok (.iload_n 1, 1) := by decide +kernel
theorem dX12_reads_103 : decode cX12_reads 103 = .ok (.invokevirtual 279, 3) := by decide +kernel
theorem dX12_reads_106 : decode cX12_reads 106 = .ok (.ifCond .eq 7, 3) := by decide +kernel
theorem dX12_reads_109 : decode cX12_reads 109 = .ok (.iconst 1, 1) := by decide +kernel
theorem dX12_reads_110 : decode cX12_reads 110 = .ok (.goto 4, 3) := by decide +kernel
theorem dX12_reads_113 : decode cX12_reads 113 = .ok (.iconst 0, 1) := by decide +kernel
theorem dX12_reads_114 : decode cX12_reads 114 = .ok (.ireturn, 1) := by decide +kernel
theorem dX12_letters_0 : decode cX12_letters 0 = .ok (.aload_n 0, 1) := by decide +kernel
theorem dX12_letters_1 : decode cX12_letters 1 = .ok (.invokevirtual 275, 3) := by decide +kernel
theorem dX12_letters_4 : decode cX12_letters 4 = .ok (.pop, 1) := by decide +kernel
theorem dX12_letters_5 : decode cX12_letters 5 = .ok (.lconst 0, 1) := by decide +kernel
theorem dX12_letters_6 : decode cX12_letters 6 = .ok (.lstore_n 1, 1) := by decide +kernel
theorem dX12_letters_7 : decode cX12_letters 7 = .ok (.iconst 0, 1) := by decide +kernel
theorem dX12_letters_8 : decode cX12_letters 8 = .ok (.istore_n 3, 1) := by decide +kernel
theorem dX12_letters_9 : decode cX12_letters 9 = .ok (.aload_n 0, 1) := by decide +kernel
theorem dX12_letters_10 : decode cX12_letters 10 = .ok (.aload_n 0, 1) := by decide +kernel
theorem dX12_letters_11 : decode cX12_letters 11 = .ok (.getfield 272, 3) := by decide +kernel
theorem dX12_letters_14 : decode cX12_letters 14 = .ok (.iload_n 3, 1) := by decide +kernel
theorem dX12_letters_15 : decode cX12_letters 15 = .ok (.iadd, 1) := by decide +kernel
theorem dX12_letters_16 : decode cX12_letters 16 = .ok (.invokevirtual 290, 3) := by decide +kernel
theorem dX12_letters_19 : decode cX12_letters 19 = .ok (.ifCond .eq 33, 3) := by decide +kernel
theorem dX12_letters_22 : decode cX12_letters 22 = .ok (.iload_n 3, 1) := by decide +kernel
theorem dX12_letters_23 : decode cX12_letters 23 = .ok (.bipush 7, 2) := by decide +kernel
theorem dX12_letters_25 : decode cX12_letters 25 = .ok (.if_icmp .ge 21, 3) := by decide +kernel
theorem dX12_letters_28 : decode cX12_letters 28 = .ok (.lload_n 1, 1) := by decide +kernel
theorem dX12_letters_29 : decode cX12_letters 29 = .ok (.bipush 8, 2) := by decide +kernel
theorem dX12_letters_31 : decode cX12_letters 31 = .ok (.lshl, 1) := by decide +kernel
theorem dX12_letters_32 : decode cX12_letters 32 = .ok (.aload_n 0, 1) := by decide +kernel
theorem dX12_letters_33 : decode cX12_letters 33 = .ok (.getfield 13, 3) := by decide +kernel
theorem dX12_letters_36 : decode cX12_letters 36 = .ok (.aload_n 0, 1) := by decide +kernel
theorem dX12_letters_37 : decode cX12_letters 37 = .ok (.getfield 272, 3) := by decide +kernel
theorem dX12_letters_40 : decode cX12_letters 40 = .ok (.iload_n 3, 1) := by decide +kernel
theorem dX12_letters_41 : decode cX12_letters 41 = .ok (.iadd, 1) := by decide +kernel
theorem dX12_letters_42 : decode cX12_letters 42 = .ok (.baload, 1) := by decide +kernel
theorem dX12_letters_43 : decode cX12_letters 43 = .ok (.i2l, 1) := by decide +kernel
theorem dX12_letters_44 : decode cX12_letters 44 = .ok (.lor, 1) := by decide +kernel
theorem dX12_letters_45 : decode cX12_letters 45 = .ok (.lstore_n 1, 1) := by decide +kernel
theorem dX12_letters_46 : decode cX12_letters 46 = .ok (.iinc 3 1, 3) := by decide +kernel
theorem dX12_letters_49 : decode cX12_letters 49 = .ok (.goto (-40), 3) := by decide +kernel
theorem dX12_letters_52 : decode cX12_letters 52 = .ok (.iload_n 3, 1) := by decide +kernel
theorem dX12_letters_53 : decode cX12_letters 53 = .ok (.bipush 7, 2) := by decide +kernel
theorem dX12_letters_55 : decode cX12_letters 55 = .ok (.if_icmp .le 9, 3) := by decide +kernel
theorem dX12_letters_58 : decode cX12_letters 58 = .ok (.ldc2_w 293, 3) := by decide +kernel
theorem dX12_letters_61 : decode cX12_letters 61 = .ok (.goto 4, 3) := by decide +kernel
theorem dX12_letters_64 : decode cX12_letters 64 = .ok (.lload_n 1, 1) := by decide +kernel
theorem dX12_letters_65 : decode cX12_letters 65 = .ok (.lreturn, 1) := by decide +kernel
theorem dX12_skips_0 : decode cX12_skips 0 = .ok (.aload_n 0, 1) := by decide +kernel
theorem dX12_skips_1 : decode cX12_skips 1 = .ok (.aload_n 0, 1) := by decide +kernel
theorem dX12_skips_2 : decode cX12_skips 2 = .ok (.getfield 272, 3) := by decide +kernel
theorem dX12_skips_5 : decode cX12_skips 5 = .ok (.invokevirtual 290, 3) := by decide +kernel
theorem dX12_skips_8 : decode cX12_skips 8 = .ok (.ifCond .eq 16, 3) := by decide +kernel
theorem dX12_skips_11 : decode cX12_skips 11 = .ok (.aload_n 0, 1) := by decide +kernel
theorem dX12_skips_12 : decode cX12_skips 12 = .ok (.dup, 1) := by decide +kernel
theorem dX12_skips_13 : decode cX12_skips 13 = .ok (.getfield 272, 3) := by decide +kernel
theorem dX12_skips_16 : decode cX12_skips 16 = .ok (.iconst 1, 1) := by decide +kernel
theorem dX12_skips_17 : decode cX12_skips 17 = .ok (.iadd, 1) := by decide +kernel
theorem dX12_skips_18 : decode cX12_skips 18 = .ok (.putfield 272, 3) := by decide +kernel
theorem dX12_skips_21 : decode cX12_skips 21 = .ok (.goto (-21), 3) := by decide +kernel
theorem dX12_skips_24 : decode cX12_skips 24 = .ok (.return_, 1) := by decide +kernel
theorem dX12_value_0 : decode cX12_value 0 = .ok (.aload_n 0, 1) := by decide +kernel
theorem dX12_value_1 : decode cX12_value 1 = .ok (.invokevirtual 275, 3) := by decide +kernel
theorem dX12_value_4 : decode cX12_value 4 = .ok (.pop, 1) := by decide +kernel
theorem dX12_value_5 : decode cX12_value 5 = .ok (.aload_n 0, 1) := by decide +kernel
theorem dX12_value_6 : decode cX12_value 6 = .ok (.getfield 272, 3) := by decide +kernel
theorem dX12_value_9 : decode cX12_value 9 = .ok (.istore_n 2, 1) := by decide +kernel
theorem dX12_value_10 : decode cX12_value 10 = .ok (.aload_n 0, 1) := by decide +kernel
theorem dX12_value_11 : decode cX12_value 11 = .ok (.invokevirtual 295, 3) := by decide +kernel
theorem dX12_value_14 : decode cX12_value 14 = .ok (.lstore_n 3, 1) := by decide +kernel
theorem dX12_value_15 : decode cX12_value 15 = .ok (.lload_n 3, 1) := by decide +kernel
theorem dX12_value_16 : decode cX12_value 16 = .ok (.ldc2_w 299, 3) := by decide +kernel
theorem dX12_value_19 : decode cX12_value 19 = .ok (.lcmp, 1) := by decide +kernel
theorem dX12_value_20 : decode cX12_value 20 = .ok (.ifCond .ne 8, 3) := by decide +kernel
theorem dX12_value_23 : decode cX12_value 23 = .ok (.bipush 6, 2) := by decide +kernel
theorem dX12_value_25 : decode cX12_value 25 = .ok (.goto 16, 3) := by decide +kernel
theorem dX12_value_28 : decode cX12_value 28 = .ok (.lload_n 3, 1) := by decide +kernel
theorem dX12_value_29 : decode cX12_value 29 = .ok (.ldc2_w 301, 3) := by decide +kernel
theorem dX12_value_32 : decode cX12_value 32 = .ok (.lcmp, 1) := by decide +kernel
theorem dX12_value_33 : decode cX12_value 33 = .ok (.ifCond .ne 7, 3) := by decide +kernel
theorem dX12_value_36 : decode cX12_value 36 = .ok (.iconst 0, 1) := by decide +kernel
theorem dX12_value_37 : decode cX12_value 37 = .ok (.goto 4, 3) := by decide +kernel
theorem dX12_value_40 : decode cX12_value 40 = .ok (.iconst (-1), 1) := by decide +kernel
theorem dX12_value_41 : decode cX12_value 41 = .ok (.istore 5, 2) := by decide +kernel
theorem dX12_value_43 : decode cX12_value 43 = .ok (.aload_n 0, 1) := by decide +kernel
theorem dX12_value_44 : decode cX12_value 44 = .ok (.iload_n 2, 1) := by decide +kernel
theorem dX12_value_45 : decode cX12_value 45 = .ok (.invokevirtual 283, 3) := by decide +kernel
theorem dX12_value_48 : decode cX12_value 48 = .ok (.ifCond .eq 12, 3) := by decide +kernel
theorem dX12_value_51 : decode cX12_value 51 = .ok (.aload_n 0, 1) := by decide +kernel
theorem dX12_value_52 : decode cX12_value 52 = .ok (.invokevirtual 303, 3) := by decide +kernel
theorem dX12_value_55 : decode cX12_value 55 = .ok (.ifCond .ne 17, 3) := by decide +kernel
theorem dX12_value_58 : decode cX12_value 58 = .ok (.iconst 0, 1) := by decide +kernel
theorem dX12_value_59 : decode cX12_value 59 = .ok (.ireturn, 1) := by decide +kernel
theorem dX12_value_60 : decode cX12_value 60 = .ok (.iload 5, 2) := by decide +kernel
theorem dX12_value_62 : decode cX12_value 62 = .ok (.ifCond .ge 10, 3) := by decide +kernel
theorem dX12_value_65 : decode cX12_value 65 = .ok (.aload_n 0, 1) := by decide +kernel
theorem dX12_value_66 : decode cX12_value 66 = .ok (.iconst 0, 1) := by decide +kernel
theorem dX12_value_67 : decode cX12_value 67 = .ok (.iload_n 2, 1) := by decide +kernel
theorem dX12_value_68 : decode cX12_value 68 = .ok (.invokevirtual 279, 3) := by decide +kernel
theorem dX12_value_71 : decode cX12_value 71 = .ok (.ireturn, 1) := by decide +kernel
theorem dX12_value_72 : decode cX12_value 72 = .ok (.aload_n 0, 1) := by decide +kernel
theorem dX12_value_73 : decode cX12_value 73 = .ok (.getfield 50, 3) := by decide +kernel
theorem dX12_value_76 : decode cX12_value 76 = .ok (.aload_n 0, 1) := by decide +kernel
theorem dX12_value_77 : decode cX12_value 77 = .ok (.getfield 307, 3) := by decide +kernel
theorem dX12_value_80 : decode cX12_value 80 = .ok (.iaload, 1) := by decide +kernel
theorem dX12_value_81 : decode cX12_value 81 = .ok (.bipush 40, 2) := by decide +kernel
theorem dX12_value_83 : decode cX12_value 83 = .ok (.if_icmp .ne 10, 3) := by decide +kernel
theorem dX12_value_86 : decode cX12_value 86 = .ok (.aload_n 0, 1) := by decide +kernel
theorem dX12_value_87 : decode cX12_value 87 = .ok (.iconst 4, 1) := by decide +kernel
theorem dX12_value_88 : decode cX12_value 88 = .ok (.iload_n 2, 1) := by decide +kernel
theorem dX12_value_89 : decode cX12_value 89 = .ok (.invokevirtual 279, 3) := by decide +kernel
theorem dX12_value_92 : decode cX12_value 92 = .ok (.ireturn, 1) := by decide +kernel
theorem dX12_value_93 : decode cX12_value 93 = .ok (.iload 5, 2) := by decide +kernel
theorem dX12_value_95 : decode cX12_value 95 = .ok (.ifCond .lt 7, 3) := by decide +kernel
theorem dX12_value_98 : decode cX12_value 98 = .ok (.aload_n 0, 1) := by decide +kernel
theorem dX12_value_99 : decode cX12_value 99 = .ok (.invokevirtual 310, 3) := by decide +kernel
theorem dX12_value_102 : decode cX12_value 102 = .ok (.lload_n 3, 1) := by decide +kernel
theorem dX12_value_103 : decode cX12_value 103 = .ok (.ldc2_w 301, 3) := by decide +kernel
theorem dX12_value_106 : decode cX12_value 106 = .ok (.lcmp, 1) := by decide +kernel
theorem dX12_value_107 : decode cX12_value 107 = .ok (.ifCond .ne 70, 3) := by decide +kernel
theorem dX12_value_110 : decode cX12_value 110 = .ok (.aload_n 0, 1) := by decide +kernel
theorem dX12_value_111 : decode cX12_value 111 = .ok (.iload_n 2, 1) := by decide +kernel
theorem dX12_value_112 : decode cX12_value 112 = .ok (.invokevirtual 283, 3) := by decide +kernel
theorem dX12_value_115 : decode cX12_value 115 = .ok (.ifCond .ne 62, 3) := by decide +kernel
theorem dX12_value_118 : decode cX12_value 118 = .ok (.aload_n 0, 1) := by decide +kernel
theorem dX12_value_119 : decode cX12_value 119 = .ok (.aload_n 0, 1) := by decide +kernel
theorem dX12_value_120 : decode cX12_value 120 = .ok (.getfield 272, 3) := by decide +kernel
theorem dX12_value_123 : decode cX12_value 123 = .ok (.invokevirtual 283, 3) := by decide +kernel
theorem dX12_value_126 : decode cX12_value 126 = .ok (.ifCond .eq 17, 3) := by decide +kernel
theorem dX12_value_129 : decode cX12_value 129 = .ok (.aload_n 0, 1) := by decide +kernel
theorem dX12_value_130 : decode cX12_value 130 = .ok (.getfield 13, 3) := by decide +kernel
theorem dX12_value_133 : decode cX12_value 133 = .ok (.aload_n 0, 1) := by decide +kernel
theorem dX12_value_134 : decode cX12_value 134 = .ok (.getfield 272, 3) := by decide +kernel
theorem dX12_value_137 : decode cX12_value 137 = .ok (.baload, 1) := by decide +kernel
theorem dX12_value_138 : decode cX12_value 138 = .ok (.bipush 53, 2) := by decide +kernel
theorem dX12_value_140 : decode cX12_value 140 = .ok (.if_icmp .le 13, 3) := by decide +kernel
theorem dX12_value_143 : decode cX12_value 143 = .ok (.aload_n 0, 1) := by decide +kernel
theorem dX12_value_144 : decode cX12_value 144 = .ok (.iconst 0, 1) := by decide +kernel
theorem dX12_value_145 : decode cX12_value 145 = .ok (.aload_n 0, 1) := by decide +kernel
theorem dX12_value_146 : decode cX12_value 146 = .ok (.getfield 272, 3) := by decide +kernel
theorem dX12_value_149 : decode cX12_value 149 = .ok (.invokevirtual 279, 3) := by decide +kernel
theorem dX12_value_152 : decode cX12_value 152 = .ok (.ireturn, 1) := by decide +kernel
theorem dX12_value_153 : decode cX12_value 153 = .ok (.aload_n 0, 1) := by decide +kernel
theorem dX12_value_154 : decode cX12_value 154 = .ok (.getfield 13, 3) := by decide +kernel
theorem dX12_value_157 : decode cX12_value 157 = .ok (.aload_n 0, 1) := by decide +kernel
theorem dX12_value_158 : decode cX12_value 158 = .ok (.getfield 272, 3) := by decide +kernel
theorem dX12_value_161 : decode cX12_value 161 = .ok (.baload, 1) := by decide +kernel
theorem dX12_value_162 : decode cX12_value 162 = .ok (.bipush 48, 2) := by decide +kernel
theorem dX12_value_164 : decode cX12_value 164 = .ok (.isub, 1) := by decide +kernel
theorem dX12_value_165 : decode cX12_value 165 = .ok (.istore 5, 2) := by decide +kernel
theorem dX12_value_167 : decode cX12_value 167 = .ok (.aload_n 0, 1) := by decide +kernel
theorem dX12_value_168 : decode cX12_value 168 = .ok (.dup, 1) := by decide +kernel
theorem dX12_value_169 : decode cX12_value 169 = .ok (.getfield 272, 3) := by decide +kernel
theorem dX12_value_172 : decode cX12_value 172 = .ok (.iconst 1, 1) := by decide +kernel
theorem dX12_value_173 : decode cX12_value 173 = .ok (.iadd, 1) := by decide +kernel
theorem dX12_value_174 : decode cX12_value 174 = .ok (.putfield 272, 3) := by decide +kernel
theorem dX12_value_177 : decode cX12_value 177 = .ok (.bipush 40, 2) := by decide +kernel
theorem dX12_value_179 : decode cX12_value 179 = .ok (.aload_n 0, 1) := by decide +kernel
theorem dX12_value_180 : decode cX12_value 180 = .ok (.getfield 307, 3) := by decide +kernel
theorem dX12_value_183 : decode cX12_value 183 = .ok (.imul, 1) := by decide +kernel
theorem dX12_value_184 : decode cX12_value 184 = .ok (.aload_n 0, 1) := by decide +kernel
theorem dX12_value_185 : decode cX12_value 185 = .ok (.getfield 50, 3) := by decide +kernel
theorem dX12_value_188 : decode cX12_value 188 = .ok (.aload_n 0, 1) := by decide +kernel
theorem dX12_value_189 : decode cX12_value 189 = .ok (.getfield 307, 3) := by decide +kernel
theorem dX12_value_192 : decode cX12_value 192 = .ok (.iaload, 1) := by decide +kernel
theorem dX12_value_193 : decode cX12_value 193 = .ok (.iadd, 1) := by decide +kernel
theorem dX12_value_194 : decode cX12_value 194 = .ok (.istore 6, 2) := by decide +kernel
theorem dX12_value_196 : decode cX12_value 196 = .ok (.aload_n 0, 1) := by decide +kernel
theorem dX12_value_197 : decode cX12_value 197 = .ok (.getfield 50, 3) := by decide +kernel
theorem dX12_value_200 : decode cX12_value 200 = .ok (.aload_n 0, 1) := by decide +kernel
theorem dX12_value_201 : decode cX12_value 201 = .ok (.getfield 307, 3) := by decide +kernel
theorem dX12_value_204 : decode cX12_value 204 = .ok (.dup2, 1) := by decide +kernel
theorem dX12_value_205 : decode cX12_value 205 = .ok (.iaload, 1) := by decide +kernel
theorem dX12_value_206 : decode cX12_value 206 = .ok (.iconst 1, 1) := by decide +kernel
theorem dX12_value_207 : decode cX12_value 207 = .ok (.iadd, 1) := by decide +kernel
theorem dX12_value_208 : decode cX12_value 208 = .ok (.iastore, 1) := by decide +kernel
theorem dX12_value_209 : decode cX12_value 209 = .ok (.aload_n 0, 1) := by decide +kernel
theorem dX12_value_210 : decode cX12_value 210 = .ok (.getfield 53, 3) := by decide +kernel
theorem dX12_value_213 : decode cX12_value 213 = .ok (.iload 6, 2) := by decide +kernel
theorem dX12_value_215 : decode cX12_value 215 = .ok (.iload_n 1, 1) := by decide +kernel
theorem dX12_value_216 : decode cX12_value 216 = .ok (.iastore, 1) := by decide +kernel
theorem dX12_value_217 : decode cX12_value 217 = .ok (.aload_n 0, 1) := by decide +kernel
theorem dX12_value_218 : decode cX12_value 218 = .ok (.getfield 56, 3) := by decide +kernel
theorem dX12_value_221 : decode cX12_value 221 = .ok (.iload 6, 2) := by decide +kernel
theorem dX12_value_223 : decode cX12_value 223 = .ok (.iload 5, 2) := by decide +kernel
theorem dX12_value_225 : decode cX12_value 225 = .ok (.iastore, 1) := by decide +kernel
theorem dX12_value_226 : decode cX12_value 226 = .ok (.aload_n 0, 1) := by decide +kernel
theorem dX12_value_227 : decode cX12_value 227 = .ok (.getfield 59, 3) := by decide +kernel
theorem dX12_value_230 : decode cX12_value 230 = .ok (.iload 6, 2) := by decide +kernel
theorem dX12_value_232 : decode cX12_value 232 = .ok (.iload 5, 2) := by decide +kernel
theorem dX12_value_234 : decode cX12_value 234 = .ok (.ifCond .ge 10, 3) := by decide +kernel
theorem dX12_value_237 : decode cX12_value 237 = .ok (.aload_n 0, 1) := by decide +kernel
theorem dX12_value_238 : decode cX12_value 238 = .ok (.getfield 287, 3) := by decide +kernel
theorem dX12_value_241 : decode cX12_value 241 = .ok (.goto 4, 3) := by decide +kernel
theorem dX12_value_244 : decode cX12_value 244 = .ok (.iconst 0, 1) := by decide +kernel
theorem dX12_value_245 : decode cX12_value 245 = .ok (.iastore, 1) := by decide +kernel
theorem dX12_value_246 : decode cX12_value 246 = .ok (.iconst 1, 1) := by decide +kernel
theorem dX12_value_247 : decode cX12_value 247 = .ok (.ireturn, 1) := by decide +kernel
theorem dX12_sum_0 : decode cX12_sum 0 = .ok (.iconst 0, 1) := by decide +kernel
theorem dX12_sum_1 : decode cX12_sum 1 = .ok (.istore_n 1, 1) := by decide +kernel
theorem dX12_sum_2 : decode cX12_sum 2 = .ok (.aload_n 0, 1) := by decide +kernel
theorem dX12_sum_3 : decode cX12_sum 3 = .ok (.iload_n 1, 1) := by decide +kernel
theorem dX12_sum_4 : decode cX12_sum 4 = .ok (.invokevirtual 313, 3) := by decide +kernel
theorem dX12_sum_7 : decode cX12_sum 7 = .ok (.ifCond .ne 5, 3) := by decide +kernel
theorem dX12_sum_10 : decode cX12_sum 10 = .ok (.iconst 0, 1) := by decide +kernel
theorem dX12_sum_11 : decode cX12_sum 11 = .ok (.ireturn, 1) := by decide +kernel
theorem dX12_sum_12 : decode cX12_sum 12 = .ok (.aload_n 0, 1) := by decide +kernel
theorem dX12_sum_13 : decode cX12_sum 13 = .ok (.invokevirtual 275, 3) := by decide +kernel
theorem dX12_sum_16 : decode cX12_sum 16 = .ok (.istore_n 1, 1) := by decide +kernel
theorem dX12_sum_17 : decode cX12_sum 17 = .ok (.iload_n 1, 1) := by decide +kernel
theorem dX12_sum_18 : decode cX12_sum 18 = .ok (.bipush 43, 2) := by decide +kernel
theorem dX12_sum_20 : decode cX12_sum 20 = .ok (.if_icmp .eq 17, 3) := by decide +kernel
theorem dX12_sum_23 : decode cX12_sum 23 = .ok (.iload_n 1, 1) := by decide +kernel
theorem dX12_sum_24 : decode cX12_sum 24 = .ok (.bipush 45, 2) := by decide +kernel
theorem dX12_sum_26 : decode cX12_sum 26 = .ok (.if_icmp .eq 11, 3) := by decide +kernel
theorem dX12_sum_29 : decode cX12_sum 29 = .ok (.iload_n 1, 1) := by decide +kernel
theorem dX12_sum_30 : decode cX12_sum 30 = .ok (.bipush 42, 2) := by decide +kernel
theorem dX12_sum_32 : decode cX12_sum 32 = .ok (.if_icmp .eq 5, 3) := by decide +kernel
theorem dX12_sum_35 : decode cX12_sum 35 = .ok (.iconst 0, 1) := by decide +kernel
theorem dX12_sum_36 : decode cX12_sum 36 = .ok (.istore_n 1, 1) := by decide +kernel
theorem dX12_sum_37 : decode cX12_sum 37 = .ok (.iload_n 1, 1) := by decide +kernel
theorem dX12_sum_38 : decode cX12_sum 38 = .ok (.ifCond .eq 13, 3) := by decide +kernel
theorem dX12_sum_41 : decode cX12_sum 41 = .ok (.aload_n 0, 1) := by decide +kernel
theorem dX12_sum_42 : decode cX12_sum 42 = .ok (.dup, 1) := by decide +kernel
theorem dX12_sum_43 : decode cX12_sum 43 = .ok (.getfield 272, 3) := by decide +kernel
theorem dX12_sum_46 : decode cX12_sum 46 = .ok (.iconst 1, 1) := by decide +kernel
theorem dX12_sum_47 : decode cX12_sum 47 = .ok (.iadd, 1) := by decide +kernel
theorem dX12_sum_48 : decode cX12_sum 48 = .ok (.putfield 272, 3) := by decide +kernel
theorem dX12_sum_51 : decode cX12_sum 51 = .ok (.iload_n 1, 1) := by decide +kernel
theorem dX12_sum_52 : decode cX12_sum 52 = .ok (.ifCond .ne (-50), 3) := by decide +kernel
theorem dX12_sum_55 : decode cX12_sum 55 = .ok (.iconst 1, 1) := by decide +kernel
theorem dX12_sum_56 : decode cX12_sum 56 = .ok (.ireturn, 1) := by decide +kernel
theorem dX12_test_0 : decode cX12_test 0 = .ok (.aload_n 0, 1) := by decide +kernel
theorem dX12_test_1 : decode cX12_test 1 = .ok (.getfield 38, 3) := by decide +kernel
theorem dX12_test_4 : decode cX12_test 4 = .ok (.iload_n 1, 1) := by decide +kernel
theorem dX12_test_5 : decode cX12_test 5 = .ok (.aload_n 0, 1) := by decide +kernel
theorem dX12_test_6 : decode cX12_test 6 = .ok (.getfield 50, 3) := by decide +kernel
theorem dX12_test_9 : decode cX12_test 9 = .ok (.aload_n 0, 1) := by decide +kernel
theorem dX12_test_10 : decode cX12_test 10 = .ok (.getfield 307, 3) := by decide +kernel
theorem dX12_test_13 : decode cX12_test 13 = .ok (.iaload, 1) := by decide +kernel
theorem dX12_test_14 : decode cX12_test 14 = .ok (.iastore, 1) := by decide +kernel
theorem dX12_test_15 : decode cX12_test 15 = .ok (.aload_n 0, 1) := by decide +kernel
theorem dX12_test_16 : decode cX12_test 16 = .ok (.invokevirtual 316, 3) := by decide +kernel
theorem dX12_test_19 : decode cX12_test 19 = .ok (.ifCond .ne 5, 3) := by decide +kernel
theorem dX12_test_22 : decode cX12_test 22 = .ok (.iconst 0, 1) := by decide +kernel
theorem dX12_test_23 : decode cX12_test 23 = .ok (.ireturn, 1) := by decide +kernel
theorem dX12_test_24 : decode cX12_test 24 = .ok (.aload_n 0, 1) := by decide +kernel
theorem dX12_test_25 : decode cX12_test 25 = .ok (.getfield 41, 3) := by decide +kernel
theorem dX12_test_28 : decode cX12_test 28 = .ok (.iload_n 1, 1) := by decide +kernel
theorem dX12_test_29 : decode cX12_test 29 = .ok (.aload_n 0, 1) := by decide +kernel
theorem dX12_test_30 : decode cX12_test 30 = .ok (.getfield 50, 3) := by decide +kernel
theorem dX12_test_33 : decode cX12_test 33 = .ok (.aload_n 0, 1) := by decide +kernel
theorem dX12_test_34 : decode cX12_test 34 = .ok (.getfield 307, 3) := by decide +kernel
theorem dX12_test_37 : decode cX12_test 37 = .ok (.iaload, 1) := by decide +kernel
theorem dX12_test_38 : decode cX12_test 38 = .ok (.iastore, 1) := by decide +kernel
theorem dX12_test_39 : decode cX12_test 39 = .ok (.aload_n 0, 1) := by decide +kernel
theorem dX12_test_40 : decode cX12_test 40 = .ok (.invokevirtual 275, 3) := by decide +kernel
theorem dX12_test_43 : decode cX12_test 43 = .ok (.istore_n 2, 1) := by decide +kernel
theorem dX12_test_44 : decode cX12_test 44 = .ok (.iload_n 2, 1) := by decide +kernel
theorem dX12_test_45 : decode cX12_test 45 = .ok (.bipush 60, 2) := by decide +kernel
theorem dX12_test_47 : decode cX12_test 47 = .ok (.if_icmp .eq 25, 3) := by decide +kernel
theorem dX12_test_50 : decode cX12_test 50 = .ok (.iload_n 2, 1) := by decide +kernel
theorem dX12_test_51 : decode cX12_test 51 = .ok (.bipush 61, 2) := by decide +kernel
theorem dX12_test_53 : decode cX12_test 53 = .ok (.if_icmp .eq 19, 3) := by decide +kernel
theorem dX12_test_56 : decode cX12_test 56 = .ok (.iload_n 2, 1) := by decide +kernel
theorem dX12_test_57 : decode cX12_test 57 = .ok (.bipush 62, 2) := by decide +kernel
theorem dX12_test_59 : decode cX12_test 59 = .ok (.if_icmp .eq 13, 3) := by decide +kernel
theorem dX12_test_62 : decode cX12_test 62 = .ok (.aload_n 0, 1) := by decide +kernel
theorem dX12_test_63 : decode cX12_test 63 = .ok (.iconst 0, 1) := by decide +kernel
theorem dX12_test_64 : decode cX12_test 64 = .ok (.aload_n 0, 1) := by decide +kernel
theorem dX12_test_65 : decode cX12_test 65 = .ok (.getfield 272, 3) := by decide +kernel
theorem dX12_test_68 : decode cX12_test 68 = .ok (.invokevirtual 279, 3) := by decide +kernel
theorem dX12_test_71 : decode cX12_test 71 = .ok (.ireturn, 1) := by decide +kernel
theorem dX12_test_72 : decode cX12_test 72 = .ok (.aload_n 0, 1) := by decide +kernel
theorem dX12_test_73 : decode cX12_test 73 = .ok (.dup, 1) := by decide +kernel
theorem dX12_test_74 : decode cX12_test 74 = .ok (.getfield 272, 3) := by decide +kernel
theorem dX12_test_77 : decode cX12_test 77 = .ok (.iconst 1, 1) := by decide +kernel
theorem dX12_test_78 : decode cX12_test 78 = .ok (.iadd, 1) := by decide +kernel
theorem dX12_test_79 : decode cX12_test 79 = .ok (.putfield 272, 3) := by decide +kernel
theorem dX12_test_82 : decode cX12_test 82 = .ok (.iload_n 2, 1) := by decide +kernel
theorem dX12_test_83 : decode cX12_test 83 = .ok (.bipush 61, 2) := by decide +kernel
theorem dX12_test_85 : decode cX12_test 85 = .ok (.if_icmp .eq 32, 3) := by decide +kernel
theorem dX12_test_88 : decode cX12_test 88 = .ok (.aload_n 0, 1) := by decide +kernel
theorem dX12_test_89 : decode cX12_test 89 = .ok (.getfield 272, 3) := by decide +kernel
theorem dX12_test_92 : decode cX12_test 92 = .ok (.aload_n 0, 1) := by decide +kernel
theorem dX12_test_93 : decode cX12_test 93 = .ok (.getfield 262, 3) := by decide +kernel
theorem dX12_test_96 : decode cX12_test 96 = .ok (.if_icmp .ge 21, 3) := by decide +kernel
theorem dX12_test_99 : decode cX12_test 99 = .ok (.aload_n 0, 1) := by decide +kernel
theorem dX12_test_100 : decode cX12_test 100 = .ok (.getfield 13, 3) := by decide +kernel
theorem dX12_test_103 : decode cX12_test 103 = .ok (.aload_n 0, 1) := by decide +kernel
theorem dX12_test_104 : decode cX12_test 104 = .ok (.getfield 272, 3) := by decide +kernel
theorem dX12_test_107 : decode cX12_test 107 = .ok (.baload, 1) := by decide +kernel
theorem dX12_test_108 : decode cX12_test 108 = .ok (.bipush 61, 2) := by decide +kernel
theorem dX12_test_110 : decode cX12_test 110 = .ok (.if_icmp .ne 7, 3) := by decide +kernel
theorem dX12_test_113 : decode cX12_test 113 = .ok (.iconst 1, 1) := by decide +kernel
theorem dX12_test_114 : decode cX12_test 114 = .ok (.goto 4, 3) := by decide +kernel
theorem dX12_test_117 : decode cX12_test 117 = .ok (.iconst 0, 1) := by decide +kernel
theorem dX12_test_118 : decode cX12_test 118 = .ok (.istore_n 3, 1) := by decide +kernel
theorem dX12_test_119 : decode cX12_test 119 = .ok (.iload_n 3, 1) := by decide +kernel
theorem dX12_test_120 : decode cX12_test 120 = .ok (.ifCond .eq 13, 3) := by decide +kernel
theorem dX12_test_123 : decode cX12_test 123 = .ok (.aload_n 0, 1) := by decide +kernel
theorem dX12_test_124 : decode cX12_test 124 = .ok (.dup, 1) := by decide +kernel
theorem dX12_test_125 : decode cX12_test 125 = .ok (.getfield 272, 3) := by decide +kernel
theorem dX12_test_128 : decode cX12_test 128 = .ok (.iconst 1, 1) := by decide +kernel
theorem dX12_test_129 : decode cX12_test 129 = .ok (.iadd, 1) := by decide +kernel
theorem dX12_test_130 : decode cX12_test 130 = .ok (.putfield 272, 3) := by decide +kernel
theorem dX12_test_133 : decode cX12_test 133 = .ok (.aload_n 0, 1) := by decide +kernel
theorem dX12_test_134 : decode cX12_test 134 = .ok (.getfield 47, 3) := by decide +kernel
theorem dX12_test_137 : decode cX12_test 137 = .ok (.iload_n 1, 1) := by decide +kernel
theorem dX12_test_138 : decode cX12_test 138 = .ok (.iload_n 2, 1) := by decide +kernel
theorem dX12_test_139 : decode cX12_test 139 = .ok (.bipush 61, 2) := by decide +kernel
theorem dX12_test_141 : decode cX12_test 141 = .ok (.if_icmp .ne 7, 3) := by decide +kernel
theorem dX12_test_144 : decode cX12_test 144 = .ok (.iconst 2, 1) := by decide +kernel
theorem dX12_test_145 : decode cX12_test 145 = .ok (.goto 30, 3) := by decide +kernel
theorem dX12_test_148 : decode cX12_test 148 = .ok (.iload_n 2, 1) := by decide +kernel
theorem dX12_test_149 : decode cX12_test 149 = .ok (.bipush 60, 2) := by decide +kernel
theorem dX12_test_151 : decode cX12_test 151 = .ok (.if_icmp .ne 15, 3) := by decide +kernel
theorem dX12_test_154 : decode cX12_test 154 = .ok (.iload_n 3, 1) := by decide +kernel
theorem dX12_test_155 : decode cX12_test 155 = .ok (.ifCond .eq 7, 3) := by decide +kernel
theorem dX12_test_158 : decode cX12_test 158 = .ok (.iconst 1, 1) := by decide +kernel
theorem dX12_test_159 : decode cX12_test 159 = .ok (.goto 16, 3) := by decide +kernel
theorem dX12_test_162 : decode cX12_test 162 = .ok (.iconst 0, 1) := by decide +kernel
theorem dX12_test_163 : decode cX12_test 163 = .ok (.goto 12, 3) := by decide +kernel
theorem dX12_test_166 : decode cX12_test 166 = .ok (.iload_n 3, 1) := by decide +kernel
theorem dX12_test_167 : decode cX12_test 167 = .ok (.ifCond .eq 7, 3) := by decide +kernel
theorem dX12_test_170 : decode cX12_test 170 = .ok (.iconst 3, 1) := by decide +kernel
theorem dX12_test_171 : decode cX12_test 171 = .ok (.goto 4, 3) := by decide +kernel
theorem dX12_test_174 : decode cX12_test 174 = .ok (.iconst 4, 1) := by decide +kernel
theorem dX12_test_175 : decode cX12_test 175 = .ok (.iastore, 1) := by decide +kernel
theorem dX12_test_176 : decode cX12_test 176 = .ok (.aload_n 0, 1) := by decide +kernel
theorem dX12_test_177 : decode cX12_test 177 = .ok (.invokevirtual 316, 3) := by decide +kernel
theorem dX12_test_180 : decode cX12_test 180 = .ok (.ifCond .ne 5, 3) := by decide +kernel
theorem dX12_test_183 : decode cX12_test 183 = .ok (.iconst 0, 1) := by decide +kernel
theorem dX12_test_184 : decode cX12_test 184 = .ok (.ireturn, 1) := by decide +kernel
theorem dX12_test_185 : decode cX12_test 185 = .ok (.aload_n 0, 1) := by decide +kernel
theorem dX12_test_186 : decode cX12_test 186 = .ok (.getfield 44, 3) := by decide +kernel
theorem dX12_test_189 : decode cX12_test 189 = .ok (.iload_n 1, 1) := by decide +kernel
theorem dX12_test_190 : decode cX12_test 190 = .ok (.aload_n 0, 1) := by decide +kernel
theorem dX12_test_191 : decode cX12_test 191 = .ok (.getfield 50, 3) := by decide +kernel
theorem dX12_test_194 : decode cX12_test 194 = .ok (.aload_n 0, 1) := by decide +kernel
theorem dX12_test_195 : decode cX12_test 195 = .ok (.getfield 307, 3) := by decide +kernel
theorem dX12_test_198 : decode cX12_test 198 = .ok (.iaload, 1) := by decide +kernel
theorem dX12_test_199 : decode cX12_test 199 = .ok (.iastore, 1) := by decide +kernel
theorem dX12_test_200 : decode cX12_test 200 = .ok (.iconst 1, 1) := by decide +kernel
theorem dX12_test_201 : decode cX12_test 201 = .ok (.ireturn, 1) := by decide +kernel
theorem dX12_begins_0 : decode cX12_begins 0 = .ok (.aload_n 0, 1) := by decide +kernel
theorem dX12_begins_1 : decode cX12_begins 1 = .ok (.invokevirtual 295, 3) := by decide +kernel
theorem dX12_begins_4 : decode cX12_begins 4 = .ok (.lstore_n 1, 1) := by decide +kernel
theorem dX12_begins_5 : decode cX12_begins 5 = .ok (.aload_n 0, 1) := by decide +kernel
theorem dX12_begins_6 : decode cX12_begins 6 = .ok (.getfield 272, 3) := by decide +kernel
theorem dX12_begins_9 : decode cX12_begins 9 = .ok (.istore_n 3, 1) := by decide +kernel
theorem dX12_begins_10 : decode cX12_begins 10 = .ok (.iconst (-1), 1) := by decide +kernel
theorem dX12_begins_11 : decode cX12_begins 11 = .ok (.istore 4, 2) := by decide +kernel
theorem dX12_begins_13 : decode cX12_begins 13 = .ok (.iconst 0, 1) := by decide +kernel
theorem dX12_begins_14 : decode cX12_begins 14 = .ok (.istore 5, 2) := by decide +kernel
theorem dX12_begins_16 : decode cX12_begins 16 = .ok (.iload 5, 2) := by decide +kernel
theorem dX12_begins_18 : decode cX12_begins 18 = .ok (.bipush 10, 2) := by decide +kernel
theorem dX12_begins_20 : decode cX12_begins 20 = .ok (.if_icmp .gt 30, 3) := by decide +kernel
theorem dX12_begins_23 : decode cX12_begins 23 = .ok (.aload_n 0, 1) := by decide +kernel
theorem dX12_begins_24 : decode cX12_begins 24 = .ok (.getfield 90, 3) := by decide +kernel
theorem dX12_begins_27 : decode cX12_begins 27 = .ok (.iload 5, 2) := by decide +kernel
theorem dX12_begins_29 : decode cX12_begins 29 = .ok (.laload, 1) := by decide +kernel
theorem dX12_begins_30 : decode cX12_begins 30 = .ok (.lload_n 1, 1) := by decide +kernel
theorem dX12_begins_31 : decode cX12_begins 31 = .ok (.lcmp, 1) := by decide +kernel
theorem dX12_begins_32 : decode cX12_begins 32 = .ok (.ifCond .ne 8, 3) := by decide +kernel
theorem dX12_begins_35 : decode cX12_begins 35 = .ok (.iload 5, 2) := by decide +kernel
theorem dX12_begins_37 : decode cX12_begins 37 = .ok (.goto 5, 3) := by decide +kernel
theorem dX12_begins_40 : decode cX12_begins 40 = .ok (.iload 4, 2) := by decide +kernel
theorem dX12_begins_42 : decode cX12_begins 42 = .ok (.istore 4, 2) := by decide +kernel
theorem dX12_begins_44 : decode cX12_begins 44 = .ok (.iinc 5 1, 3) := by decide +kernel
theorem dX12_begins_47 : decode cX12_begins 47 = .ok (.goto (-31), 3) := by decide +kernel
theorem dX12_begins_50 : decode cX12_begins 50 = .ok (.iload 4, 2) := by decide +kernel
theorem dX12_begins_52 : decode cX12_begins 52 = .ok (.ifCond .ge 10, 3) := by decide +kernel
theorem dX12_begins_55 : decode cX12_begins 55 = .ok (.aload_n 0, 1) := by decide +kernel
theorem dX12_begins_56 : decode cX12_begins 56 = .ok (.iconst 0, 1) := by decide +kernel
theorem dX12_begins_57 : decode cX12_begins 57 = .ok (.iload_n 3, 1) := by decide +kernel
theorem dX12_begins_58 : decode cX12_begins 58 = .ok (.invokevirtual 279, 3) := by decide +kernel
theorem dX12_begins_61 : decode cX12_begins 61 = .ok (.ireturn, 1) := by decide +kernel
theorem dX12_begins_62 : decode cX12_begins 62 = .ok (.aload_n 0, 1) := by decide +kernel
theorem dX12_begins_63 : decode cX12_begins 63 = .ok (.getfield 319, 3) := by decide +kernel
theorem dX12_begins_66 : decode cX12_begins 66 = .ok (.ifCond .ne 7, 3) := by decide +kernel
theorem dX12_begins_69 : decode cX12_begins 69 = .ok (.iconst (-1), 1) := by decide +kernel
theorem dX12_begins_70 : decode cX12_begins 70 = .ok (.goto 14, 3) := by decide +kernel
theorem dX12_begins_73 : decode cX12_begins 73 = .ok (.aload_n 0, 1) := by decide +kernel
theorem dX12_begins_74 : decode cX12_begins 74 = .ok (.getfield 62, 3) := by decide +kernel
theorem dX12_begins_77 : decode cX12_begins 77 = .ok (.aload_n 0, 1) := by decide +kernel
theorem dX12_begins_78 : decode cX12_begins 78 = .ok (.getfield 319, 3) := by decide +kernel
theorem dX12_begins_81 : decode cX12_begins 81 = .ok (.iconst 1, 1) := by decide +kernel
theorem dX12_begins_82 : decode cX12_begins 82 = .ok (.isub, 1) := by decide +kernel
theorem dX12_begins_83 : decode cX12_begins 83 = .ok (.iaload, 1) := by decide +kernel
theorem dX12_begins_84 : decode cX12_begins 84 = .ok (.istore 5, 2) := by decide +kernel
theorem dX12_begins_86 : decode cX12_begins 86 = .ok (.aload_n 0, 1) := by decide +kernel
theorem dX12_begins_87 : decode cX12_begins 87 = .ok (.getfield 319, 3) := by decide +kernel
theorem dX12_begins_90 : decode cX12_begins 90 = .ok (.ifCond .ne 7, 3) := by decide +kernel
theorem dX12_begins_93 : decode cX12_begins 93 = .ok (.iconst 0, 1) := by decide +kernel
theorem dX12_begins_94 : decode cX12_begins 94 = .ok (.goto 12, 3) := by decide +kernel
theorem dX12_begins_97 : decode cX12_begins 97 = .ok (.aload_n 0, 1) := by decide +kernel
theorem dX12_begins_98 : decode cX12_begins 98 = .ok (.getfield 26, 3) := by decide +kernel
theorem dX12_begins_101 : decode cX12_begins 101 = .ok (.iload 5, 2) := by decide +kernel
theorem dX12_begins_103 : decode cX12_begins 103 = .ok (.iaload, 1) := by decide +kernel
theorem dX12_begins_104 : decode cX12_begins 104 = .ok (.iconst 1, 1) := by decide +kernel
theorem dX12_begins_105 : decode cX12_begins 105 = .ok (.iadd, 1) := by decide +kernel
theorem dX12_begins_106 : decode cX12_begins 106 = .ok (.istore 6, 2) := by decide +kernel
theorem dX12_begins_108 : decode cX12_begins 108 = .ok (.iload 6, 2) := by decide +kernel
theorem dX12_begins_110 : decode cX12_begins 110 = .ok (.bipush 11, 2) := by decide +kernel
theorem dX12_begins_112 : decode cX12_begins 112 = .ok (.if_icmp .le 10, 3) := by decide +kernel
theorem dX12_begins_115 : decode cX12_begins 115 = .ok (.aload_n 0, 1) := by decide +kernel
theorem dX12_begins_116 : decode cX12_begins 116 = .ok (.iconst 2, 1) := by decide +kernel
theorem dX12_begins_117 : decode cX12_begins 117 = .ok (.iload_n 3, 1) := by decide +kernel
theorem dX12_begins_118 : decode cX12_begins 118 = .ok (.invokevirtual 279, 3) := by decide +kernel
theorem dX12_begins_121 : decode cX12_begins 121 = .ok (.ireturn, 1) := by decide +kernel
theorem dX12_begins_122 : decode cX12_begins 122 = .ok (.aload_n 0, 1) := by decide +kernel
theorem dX12_begins_123 : decode cX12_begins 123 = .ok (.getfield 17, 3) := by decide +kernel
theorem dX12_begins_126 : decode cX12_begins 126 = .ok (.aload_n 0, 1) := by decide +kernel
theorem dX12_begins_127 : decode cX12_begins 127 = .ok (.getfield 307, 3) := by decide +kernel
theorem dX12_begins_130 : decode cX12_begins 130 = .ok (.iaload, 1) := by decide +kernel
theorem dX12_begins_131 : decode cX12_begins 131 = .ok (.bipush 40, 2) := by decide +kernel
theorem dX12_begins_133 : decode cX12_begins 133 = .ok (.if_icmp .ne 10, 3) := by decide +kernel
theorem dX12_begins_136 : decode cX12_begins 136 = .ok (.aload_n 0, 1) := by decide +kernel
theorem dX12_begins_137 : decode cX12_begins 137 = .ok (.iconst 3, 1) := by decide +kernel
theorem dX12_begins_138 : decode cX12_begins 138 = .ok (.iload_n 3, 1) := by decide +kernel
theorem dX12_begins_139 : decode cX12_begins 139 = .ok (.invokevirtual 279, 3) := by decide +kernel
theorem dX12_begins_142 : decode cX12_begins 142 = .ok (.ireturn, 1) := by decide +kernel
theorem dX12_begins_143 : decode cX12_begins 143 = .ok (.aload_n 0, 1) := by decide +kernel
theorem dX12_begins_144 : decode cX12_begins 144 = .ok (.invokevirtual 310, 3) := by decide +kernel
theorem dX12_begins_147 : decode cX12_begins 147 = .ok (.bipush 40, 2) := by decide +kernel
theorem dX12_begins_149 : decode cX12_begins 149 = .ok (.aload_n 0, 1) := by decide +kernel
theorem dX12_begins_150 : decode cX12_begins 150 = .ok (.getfield 307, 3) := by decide +kernel
theorem dX12_begins_153 : decode cX12_begins 153 = .ok (.imul, 1) := by decide +kernel
theorem dX12_begins_154 : decode cX12_begins 154 = .ok (.aload_n 0, 1) := by decide +kernel
theorem dX12_begins_155 : decode cX12_begins 155 = .ok (.getfield 17, 3) := by decide +kernel
theorem dX12_begins_158 : decode cX12_begins 158 = .ok (.aload_n 0, 1) := by decide +kernel
theorem dX12_begins_159 : decode cX12_begins 159 = .ok (.getfield 307, 3) := by decide +kernel
theorem dX12_begins_162 : decode cX12_begins 162 = .ok (.iaload, 1) := by decide +kernel
theorem dX12_begins_163 : decode cX12_begins 163 = .ok (.iadd, 1) := by decide +kernel
theorem dX12_begins_164 : decode cX12_begins 164 = .ok (.istore 7, 2) := by decide +kernel
theorem dX12_begins_166 : decode cX12_begins 166 = .ok (.aload_n 0, 1) := by decide +kernel
theorem dX12_begins_167 : decode cX12_begins 167 = .ok (.getfield 17, 3) := by decide +kernel
theorem dX12_begins_170 : decode cX12_begins 170 = .ok (.aload_n 0, 1) := by decide +kernel
theorem dX12_begins_171 : decode cX12_begins 171 = .ok (.getfield 307, 3) := by decide +kernel
theorem dX12_begins_174 : decode cX12_begins 174 = .ok (.dup2, 1) := by decide +kernel
theorem dX12_begins_175 : decode cX12_begins 175 = .ok (.iaload, 1) := by decide +kernel
theorem dX12_begins_176 : decode cX12_begins 176 = .ok (.iconst 1, 1) := by decide +kernel
theorem dX12_begins_177 : decode cX12_begins 177 = .ok (.iadd, 1) := by decide +kernel
theorem dX12_begins_178 : decode cX12_begins 178 = .ok (.iastore, 1) := by decide +kernel
theorem dX12_begins_179 : decode cX12_begins 179 = .ok (.aload_n 0, 1) := by decide +kernel
theorem dX12_begins_180 : decode cX12_begins 180 = .ok (.getfield 20, 3) := by decide +kernel
theorem dX12_begins_183 : decode cX12_begins 183 = .ok (.iload 7, 2) := by decide +kernel
theorem dX12_begins_185 : decode cX12_begins 185 = .ok (.iload 4, 2) := by decide +kernel
theorem dX12_begins_187 : decode cX12_begins 187 = .ok (.iastore, 1) := by decide +kernel
theorem dX12_begins_188 : decode cX12_begins 188 = .ok (.aload_n 0, 1) := by decide +kernel
theorem dX12_begins_189 : decode cX12_begins 189 = .ok (.getfield 23, 3) := by decide +kernel
theorem dX12_begins_192 : decode cX12_begins 192 = .ok (.iload 7, 2) := by decide +kernel
theorem dX12_begins_194 : decode cX12_begins 194 = .ok (.iconst (-1), 1) := by decide +kernel
theorem dX12_begins_195 : decode cX12_begins 195 = .ok (.iastore, 1) := by decide +kernel
theorem dX12_begins_196 : decode cX12_begins 196 = .ok (.aload_n 0, 1) := by decide +kernel
theorem dX12_begins_197 : decode cX12_begins 197 = .ok (.getfield 26, 3) := by decide +kernel
theorem dX12_begins_200 : decode cX12_begins 200 = .ok (.iload 7, 2) := by decide +kernel
theorem dX12_begins_202 : decode cX12_begins 202 = .ok (.iload 6, 2) := by decide +kernel
theorem dX12_begins_204 : decode cX12_begins 204 = .ok (.iastore, 1) := by decide +kernel
theorem dX12_begins_205 : decode cX12_begins 205 = .ok (.aload_n 0, 1) := by decide +kernel
theorem dX12_begins_206 : decode cX12_begins 206 = .ok (.getfield 29, 3) := by decide +kernel
theorem dX12_begins_209 : decode cX12_begins 209 = .ok (.iload 7, 2) := by decide +kernel
theorem dX12_begins_211 : decode cX12_begins 211 = .ok (.iload 5, 2) := by decide +kernel
theorem dX12_begins_213 : decode cX12_begins 213 = .ok (.iastore, 1) := by decide +kernel
theorem dX12_begins_214 : decode cX12_begins 214 = .ok (.aload_n 0, 1) := by decide +kernel
theorem dX12_begins_215 : decode cX12_begins 215 = .ok (.getfield 38, 3) := by decide +kernel
theorem dX12_begins_218 : decode cX12_begins 218 = .ok (.iload 7, 2) := by decide +kernel
theorem dX12_begins_220 : decode cX12_begins 220 = .ok (.iconst 0, 1) := by decide +kernel
theorem dX12_begins_221 : decode cX12_begins 221 = .ok (.iastore, 1) := by decide +kernel
theorem dX12_begins_222 : decode cX12_begins 222 = .ok (.aload_n 0, 1) := by decide +kernel
theorem dX12_begins_223 : decode cX12_begins 223 = .ok (.getfield 41, 3) := by decide +kernel
theorem dX12_begins_226 : decode cX12_begins 226 = .ok (.iload 7, 2) := by decide +kernel
theorem dX12_begins_228 : decode cX12_begins 228 = .ok (.iconst 0, 1) := by decide +kernel
theorem dX12_begins_229 : decode cX12_begins 229 = .ok (.iastore, 1) := by decide +kernel
theorem dX12_begins_230 : decode cX12_begins 230 = .ok (.aload_n 0, 1) := by decide +kernel
theorem dX12_begins_231 : decode cX12_begins 231 = .ok (.getfield 44, 3) := by decide +kernel
theorem dX12_begins_234 : decode cX12_begins 234 = .ok (.iload 7, 2) := by decide +kernel
theorem dX12_begins_236 : decode cX12_begins 236 = .ok (.iconst 0, 1) := by decide +kernel
theorem dX12_begins_237 : decode cX12_begins 237 = .ok (.iastore, 1) := by decide +kernel
theorem dX12_begins_238 : decode cX12_begins 238 = .ok (.aload_n 0, 1) := by decide +kernel
theorem dX12_begins_239 : decode cX12_begins 239 = .ok (.getfield 319, 3) := by decide +kernel
theorem dX12_begins_242 : decode cX12_begins 242 = .ok (.ifCond .le 30, 3) := by decide +kernel
theorem dX12_begins_245 : decode cX12_begins 245 = .ok (.aload_n 0, 1) := by decide +kernel
theorem dX12_begins_246 : decode cX12_begins 246 = .ok (.getfield 65, 3) := by decide +kernel
theorem dX12_begins_249 : decode cX12_begins 249 = .ok (.aload_n 0, 1) := by decide +kernel
theorem dX12_begins_250 : decode cX12_begins 250 = .ok (.getfield 319, 3) := by decide +kernel
theorem dX12_begins_253 : decode cX12_begins 253 = .ok (.iconst 1, 1) := by decide +kernel
theorem dX12_begins_254 : decode cX12_begins 254 = .ok (.isub, 1) := by decide +kernel
theorem dX12_begins_255 : decode cX12_begins 255 = .ok (.iaload, 1) := by decide +kernel
theorem dX12_begins_256 : decode cX12_begins 256 = .ok (.iconst 2, 1) := by decide +kernel
theorem dX12_begins_257 : decode cX12_begins 257 = .ok (.if_icmp .ne 15, 3) := by decide +kernel
theorem dX12_begins_260 : decode cX12_begins 260 = .ok (.aload_n 0, 1) := by decide +kernel
theorem dX12_begins_261 : decode cX12_begins 261 = .ok (.getfield 35, 3) := by decide +kernel
theorem dX12_begins_264 : decode cX12_begins 264 = .ok (.iload 5, 2) := by decide +kernel
theorem dX12_begins_266 : decode cX12_begins 266 = .ok (.iload 7, 2) := by decide +kernel
theorem dX12_begins_268 : decode cX12_begins 268 = .ok (.iastore, 1) := by decide +kernel
theorem dX12_begins_269 : decode cX12_begins 269 = .ok (.goto 19, 3) := by decide +kernel
theorem dX12_begins_272 : decode cX12_begins 272 = .ok (.aload_n 0, 1) := by decide +kernel
theorem dX12_begins_273 : decode cX12_begins 273 = .ok (.getfield 319, 3) := by decide +kernel
theorem dX12_begins_276 : decode cX12_begins 276 = .ok (.ifCond .le 12, 3) := by decide +kernel
theorem dX12_begins_279 : decode cX12_begins 279 = .ok (.aload_n 0, 1) := by decide +kernel
theorem dX12_begins_280 : decode cX12_begins 280 = .ok (.getfield 32, 3) := by decide +kernel
theorem dX12_begins_283 : decode cX12_begins 283 = .ok (.iload 5, 2) := by decide +kernel
theorem dX12_begins_285 : decode cX12_begins 285 = .ok (.iload 7, 2) := by decide +kernel
theorem dX12_begins_287 : decode cX12_begins 287 = .ok (.iastore, 1) := by decide +kernel
theorem dX12_begins_288 : decode cX12_begins 288 = .ok (.iload 4, 2) := by decide +kernel
theorem dX12_begins_290 : decode cX12_begins 290 = .ok (.ifCond .eq 9, 3) := by decide +kernel
theorem dX12_begins_293 : decode cX12_begins 293 = .ok (.iload 4, 2) := by decide +kernel
theorem dX12_begins_295 : decode cX12_begins 295 = .ok (.iconst 1, 1) := by decide +kernel
theorem dX12_begins_296 : decode cX12_begins 296 = .ok (.if_icmp .ne 5, 3) := by decide +kernel
theorem dX12_begins_299 : decode cX12_begins 299 = .ok (.iconst 1, 1) := by decide +kernel
theorem dX12_begins_300 : decode cX12_begins 300 = .ok (.ireturn, 1) := by decide +kernel
theorem dX12_begins_301 : decode cX12_begins 301 = .ok (.iload 4, 2) := by decide +kernel
theorem dX12_begins_303 : decode cX12_begins 303 = .ok (.iconst 5, 1) := by decide +kernel
theorem dX12_begins_304 : decode cX12_begins 304 = .ok (.if_icmp .eq 10, 3) := by decide +kernel
theorem dX12_begins_307 : decode cX12_begins 307 = .ok (.iload 4, 2) := by decide +kernel
theorem dX12_begins_309 : decode cX12_begins 309 = .ok (.bipush 10, 2) := by decide +kernel
theorem dX12_begins_311 : decode cX12_begins 311 = .ok (.if_icmp .ne 23, 3) := by decide +kernel
theorem dX12_begins_314 : decode cX12_begins 314 = .ok (.aload_n 0, 1) := by decide +kernel
theorem dX12_begins_315 : decode cX12_begins 315 = .ok (.invokevirtual 303, 3) := by decide +kernel
theorem dX12_begins_318 : decode cX12_begins 318 = .ok (.ifCond .ne 5, 3) := by decide +kernel
theorem dX12_begins_321 : decode cX12_begins 321 = .ok (.iconst 0, 1) := by decide +kernel
theorem dX12_begins_322 : decode cX12_begins 322 = .ok (.ireturn, 1) := by decide +kernel
theorem dX12_begins_323 : decode cX12_begins 323 = .ok (.aload_n 0, 1) := by decide +kernel
theorem dX12_begins_324 : decode cX12_begins 324 = .ok (.getfield 23, 3) := by decide +kernel
theorem dX12_begins_327 : decode cX12_begins 327 = .ok (.iload 7, 2) := by decide +kernel
theorem dX12_begins_329 : decode cX12_begins 329 = .ok (.aload_n 0, 1) := by decide +kernel
theorem dX12_begins_330 : decode cX12_begins 330 = .ok (.getfield 287, 3) := by decide +kernel
theorem dX12_begins_333 : decode cX12_begins 333 = .ok (.iastore, 1) := by decide +kernel
theorem dX12_begins_334 : decode cX12_begins 334 = .ok (.iload 4, 2) := by decide +kernel
theorem dX12_begins_336 : decode cX12_begins 336 = .ok (.bipush 6, 2) := by decide +kernel
theorem dX12_begins_338 : decode cX12_begins 338 = .ok (.if_icmp .eq 17, 3) := by decide +kernel
theorem dX12_begins_341 : decode cX12_begins 341 = .ok (.iload 4, 2) := by decide +kernel
theorem dX12_begins_343 : decode cX12_begins 343 = .ok (.bipush 7, 2) := by decide +kernel
theorem dX12_begins_345 : decode cX12_begins 345 = .ok (.if_icmp .eq 10, 3) := by decide +kernel
theorem dX12_begins_348 : decode cX12_begins 348 = .ok (.iload 4, 2) := by decide +kernel
theorem dX12_begins_350 : decode cX12_begins 350 = .ok (.bipush 8, 2) := by decide +kernel
theorem dX12_begins_352 : decode cX12_begins 352 = .ok (.if_icmp .ne 23, 3) := by decide +kernel
theorem dX12_begins_355 : decode cX12_begins 355 = .ok (.aload_n 0, 1) := by decide +kernel
theorem dX12_begins_356 : decode cX12_begins 356 = .ok (.iload 7, 2) := by decide +kernel
theorem dX12_begins_358 : decode cX12_begins 358 = .ok (.invokevirtual 322, 3) := by decide +kernel
theorem dX12_begins_361 : decode cX12_begins 361 = .ok (.ifCond .eq 12, 3) := by decide +kernel
theorem dX12_begins_364 : decode cX12_begins 364 = .ok (.aload_n 0, 1) := by decide +kernel
theorem dX12_begins_365 : decode cX12_begins 365 = .ok (.bipush 58, 2) := by decide +kernel
theorem dX12_begins_367 : decode cX12_begins 367 = .ok (.invokevirtual 325, 3) := by decide +kernel
theorem dX12_begins_370 : decode cX12_begins 370 = .ok (.ifCond .ne 5, 3) := by decide +kernel
theorem dX12_begins_373 : decode cX12_begins 373 = .ok (.iconst 0, 1) := by decide +kernel
theorem dX12_begins_374 : decode cX12_begins 374 = .ok (.ireturn, 1) := by decide +kernel
theorem dX12_begins_375 : decode cX12_begins 375 = .ok (.iload 4, 2) := by decide +kernel
theorem dX12_begins_377 : decode cX12_begins 377 = .ok (.bipush 9, 2) := by decide +kernel
theorem dX12_begins_379 : decode cX12_begins 379 = .ok (.if_icmp .ne 69, 3) := by decide +kernel
theorem dX12_begins_382 : decode cX12_begins 382 = .ok (.aload_n 0, 1) := by decide +kernel
theorem dX12_begins_383 : decode cX12_begins 383 = .ok (.getfield 38, 3) := by decide +kernel
theorem dX12_begins_386 : decode cX12_begins 386 = .ok (.iload 7, 2) := by decide +kernel
theorem dX12_begins_388 : decode cX12_begins 388 = .ok (.aload_n 0, 1) := by decide +kernel
theorem dX12_begins_389 : decode cX12_begins 389 = .ok (.getfield 50, 3) := by decide +kernel
theorem dX12_begins_392 : decode cX12_begins 392 = .ok (.aload_n 0, 1) := by decide +kernel
theorem dX12_begins_393 : decode cX12_begins 393 = .ok (.getfield 307, 3) := by decide +kernel
theorem dX12_begins_396 : decode cX12_begins 396 = .ok (.iaload, 1) := by decide +kernel
theorem dX12_begins_397 : decode cX12_begins 397 = .ok (.iastore, 1) := by decide +kernel
theorem dX12_begins_398 : decode cX12_begins 398 = .ok (.aload_n 0, 1) := by decide +kernel
theorem dX12_begins_399 : decode cX12_begins 399 = .ok (.invokevirtual 316, 3) := by decide +kernel
theorem dX12_begins_402 : decode cX12_begins 402 = .ok (.ifCond .ne 5, 3) := by decide +kernel
theorem dX12_begins_405 : decode cX12_begins 405 = .ok (.iconst 0, 1) := by decide +kernel
theorem dX12_begins_406 : decode cX12_begins 406 = .ok (.ireturn, 1) := by decide +kernel
theorem dX12_begins_407 : decode cX12_begins 407 = .ok (.aload_n 0, 1) := by decide +kernel
theorem dX12_begins_408 : decode cX12_begins 408 = .ok (.getfield 41, 3) := by decide +kernel
theorem dX12_begins_411 : decode cX12_begins 411 = .ok (.iload 7, 2) := by decide +kernel
theorem dX12_begins_413 : decode cX12_begins 413 = .ok (.aload_n 0, 1) := by decide +kernel
theorem dX12_begins_414 : decode cX12_begins 414 = .ok (.getfield 50, 3) := by decide +kernel
theorem dX12_begins_417 : decode cX12_begins 417 = .ok (.aload_n 0, 1) := by decide +kernel
theorem dX12_begins_418 : decode cX12_begins 418 = .ok (.getfield 307, 3) := by decide +kernel
theorem dX12_begins_421 : decode cX12_begins 421 = .ok (.iaload, 1) := by decide +kernel
theorem dX12_begins_422 : decode cX12_begins 422 = .ok (.iastore, 1) := by decide +kernel
theorem dX12_begins_423 : decode cX12_begins 423 = .ok (.aload_n 0, 1) := by decide +kernel
theorem dX12_begins_424 : decode cX12_begins 424 = .ok (.getfield 44, 3) := by decide +kernel
theorem dX12_begins_427 : decode cX12_begins 427 = .ok (.iload 7, 2) := by decide +kernel
theorem dX12_begins_429 : decode cX12_begins 429 = .ok (.aload_n 0, 1) := by decide +kernel
theorem dX12_begins_430 : decode cX12_begins 430 = .ok (.getfield 41, 3) := by decide +kernel
theorem dX12_begins_433 : decode cX12_begins 433 = .ok (.iload 7, 2) := by decide +kernel
theorem dX12_begins_435 : decode cX12_begins 435 = .ok (.iaload, 1) := by decide +kernel
theorem dX12_begins_436 : decode cX12_begins 436 = .ok (.iastore, 1) := by decide +kernel
theorem dX12_begins_437 : decode cX12_begins 437 = .ok (.aload_n 0, 1) := by decide +kernel
theorem dX12_begins_438 : decode cX12_begins 438 = .ok (.bipush 58, 2) := by decide +kernel
theorem dX12_begins_440 : decode cX12_begins 440 = .ok (.invokevirtual 325, 3) := by decide +kernel
theorem dX12_begins_443 : decode cX12_begins 443 = .ok (.ifCond .ne 5, 3) := by decide +kernel
theorem dX12_begins_446 : decode cX12_begins 446 = .ok (.iconst 0, 1) := by decide +kernel
theorem dX12_begins_447 : decode cX12_begins 447 = .ok (.ireturn, 1) := by decide +kernel
theorem dX12_begins_448 : decode cX12_begins 448 = .ok (.iload 4, 2) := by decide +kernel
theorem dX12_begins_450 : decode cX12_begins 450 = .ok (.iconst 3, 1) := by decide +kernel
theorem dX12_begins_451 : decode cX12_begins 451 = .ok (.if_icmp .eq 15, 3) := by decide +kernel
theorem dX12_begins_454 : decode cX12_begins 454 = .ok (.iload 4, 2) := by decide +kernel
theorem dX12_begins_456 : decode cX12_begins 456 = .ok (.iconst 4, 1) := by decide +kernel
theorem dX12_begins_457 : decode cX12_begins 457 = .ok (.if_icmp .eq 9, 3) := by decide +kernel
theorem dX12_begins_460 : decode cX12_begins 460 = .ok (.iload 4, 2) := by decide +kernel
theorem dX12_begins_462 : decode cX12_begins 462 = .ok (.iconst 5, 1) := by decide +kernel
theorem dX12_begins_463 : decode cX12_begins 463 = .ok (.if_icmp .ne 7, 3) := by decide +kernel
theorem dX12_begins_466 : decode cX12_begins 466 = .ok (.iconst 1, 1) := by decide +kernel
theorem dX12_begins_467 : decode cX12_begins 467 = .ok (.goto 4, 3) := by decide +kernel
theorem dX12_begins_470 : decode cX12_begins 470 = .ok (.iconst 0, 1) := by decide +kernel
theorem dX12_begins_471 : decode cX12_begins 471 = .ok (.istore 8, 2) := by decide +kernel
theorem dX12_begins_473 : decode cX12_begins 473 = .ok (.iload 8, 2) := by decide +kernel
theorem dX12_begins_475 : decode cX12_begins 475 = .ok (.ifCond .eq 14, 3) := by decide +kernel
theorem dX12_begins_478 : decode cX12_begins 478 = .ok (.aload_n 0, 1) := by decide +kernel
theorem dX12_begins_479 : decode cX12_begins 479 = .ok (.bipush 40, 2) := by decide +kernel
theorem dX12_begins_481 : decode cX12_begins 481 = .ok (.invokevirtual 325, 3) := by decide +kernel
theorem dX12_begins_484 : decode cX12_begins 484 = .ok (.ifCond .ne 5, 3) := by decide +kernel
theorem dX12_begins_487 : decode cX12_begins 487 = .ok (.iconst 0, 1) := by decide +kernel
theorem dX12_begins_488 : decode cX12_begins 488 = .ok (.ireturn, 1) := by decide +kernel
theorem dX12_begins_489 : decode cX12_begins 489 = .ok (.aload_n 0, 1) := by decide +kernel
theorem dX12_begins_490 : decode cX12_begins 490 = .ok (.getfield 62, 3) := by decide +kernel
theorem dX12_begins_493 : decode cX12_begins 493 = .ok (.aload_n 0, 1) := by decide +kernel
theorem dX12_begins_494 : decode cX12_begins 494 = .ok (.getfield 319, 3) := by decide +kernel
theorem dX12_begins_497 : decode cX12_begins 497 = .ok (.iload 7, 2) := by decide +kernel
theorem dX12_begins_499 : decode cX12_begins 499 = .ok (.iastore, 1) := by decide +kernel
theorem dX12_begins_500 : decode cX12_begins 500 = .ok (.aload_n 0, 1) := by decide +kernel
theorem dX12_begins_501 : decode cX12_begins 501 = .ok (.getfield 65, 3) := by decide +kernel
theorem dX12_begins_504 : decode cX12_begins 504 = .ok (.aload_n 0, 1) := by decide +kernel
theorem dX12_begins_505 : decode cX12_begins 505 = .ok (.getfield 319, 3) := by decide +kernel
theorem dX12_begins_508 : decode cX12_begins 508 = .ok (.iload 8, 2) := by decide +kernel
theorem dX12_begins_510 : decode cX12_begins 510 = .ok (.ifCond .eq 7, 3) := by decide +kernel
theorem dX12_begins_513 : decode cX12_begins 513 = .ok (.iconst 1, 1) := by decide +kernel
theorem dX12_begins_514 : decode cX12_begins 514 = .ok (.goto 4, 3) := by decide +kernel
theorem dX12_begins_517 : decode cX12_begins 517 = .ok (.iconst 0, 1) := by decide +kernel
theorem dX12_begins_518 : decode cX12_begins 518 = .ok (.iastore, 1) := by decide +kernel
theorem dX12_begins_519 : decode cX12_begins 519 = .ok (.aload_n 0, 1) := by decide +kernel
theorem dX12_begins_520 : decode cX12_begins 520 = .ok (.dup, 1) := by decide +kernel
theorem dX12_begins_521 : decode cX12_begins 521 = .ok (.getfield 319, 3) := by decide +kernel
theorem dX12_begins_524 : decode cX12_begins 524 = .ok (.iconst 1, 1) := by decide +kernel
theorem dX12_begins_525 : decode cX12_begins 525 = .ok (.iadd, 1) := by decide +kernel
theorem dX12_begins_526 : decode cX12_begins 526 = .ok (.putfield 319, 3) := by decide +kernel
theorem dX12_begins_529 : decode cX12_begins 529 = .ok (.iconst 1, 1) := by decide +kernel
theorem dX12_begins_530 : decode cX12_begins 530 = .ok (.ireturn, 1) := by decide +kernel
theorem dX12_ended_0 : decode cX12_ended 0 = .ok (.aload_n 0, 1) := by decide +kernel
theorem dX12_ended_1 : decode cX12_ended 1 = .ok (.getfield 319, 3) := by decide +kernel
theorem dX12_ended_4 : decode cX12_ended 4 = .ok (.ifCond .le 68, 3) := by decide +kernel
theorem dX12_ended_7 : decode cX12_ended 7 = .ok (.aload_n 0, 1) := by decide +kernel
theorem dX12_ended_8 : decode cX12_ended 8 = .ok (.getfield 65, 3) := by decide +kernel
theorem dX12_ended_11 : decode cX12_ended 11 = .ok (.aload_n 0, 1) := by decide +kernel
theorem dX12_ended_12 : decode cX12_ended 12 = .ok (.getfield 319, 3) := by decide +kernel
theorem dX12_ended_15 : decode cX12_ended 15 = .ok (.iconst 1, 1) := by decide +kernel
theorem dX12_ended_16 : decode cX12_ended 16 = .ok (.isub, 1) := by decide +kernel
theorem dX12_ended_17 : decode cX12_ended 17 = .ok (.iaload, 1) := by decide +kernel
theorem dX12_ended_18 : decode cX12_ended 18 = .ok (.istore_n 1, 1) := by decide +kernel
theorem dX12_ended_19 : decode cX12_ended 19 = .ok (.iload_n 1, 1) := by decide +kernel
theorem dX12_ended_20 : decode cX12_ended 20 = .ok (.iconst 1, 1) := by decide +kernel
theorem dX12_ended_21 : decode cX12_ended 21 = .ok (.if_icmp .ne 22, 3) := by decide +kernel
theorem dX12_ended_24 : decode cX12_ended 24 = .ok (.aload_n 0, 1) := by decide +kernel
theorem dX12_ended_25 : decode cX12_ended 25 = .ok (.getfield 65, 3) := by decide +kernel
theorem dX12_ended_28 : decode cX12_ended 28 = .ok (.aload_n 0, 1) := by decide +kernel
theorem dX12_ended_29 : decode cX12_ended 29 = .ok (.getfield 319, 3) := by decide +kernel
theorem dX12_ended_32 : decode cX12_ended 32 = .ok (.iconst 1, 1) := by decide +kernel
theorem dX12_ended_33 : decode cX12_ended 33 = .ok (.isub, 1) := by decide +kernel
theorem dX12_ended_34 : decode cX12_ended 34 = .ok (.iconst 2, 1) := by decide +kernel
theorem dX12_ended_35 : decode cX12_ended 35 = .ok (.iastore, 1) := by decide +kernel
theorem dX12_ended_36 : decode cX12_ended 36 = .ok (.aload_n 0, 1) := by decide +kernel
theorem dX12_ended_37 : decode cX12_ended 37 = .ok (.bipush 44, 2) := by decide +kernel
theorem dX12_ended_39 : decode cX12_ended 39 = .ok (.invokevirtual 325, 3) := by decide +kernel
theorem dX12_ended_42 : decode cX12_ended 42 = .ok (.ireturn, 1) := by decide +kernel
theorem dX12_ended_43 : decode cX12_ended 43 = .ok (.iload_n 1, 1) := by decide +kernel
theorem dX12_ended_44 : decode cX12_ended 44 = .ok (.iconst 2, 1) := by decide +kernel
theorem dX12_ended_45 : decode cX12_ended 45 = .ok (.if_icmp .ne 14, 3) := by decide +kernel
theorem dX12_ended_48 : decode cX12_ended 48 = .ok (.aload_n 0, 1) := by decide +kernel
theorem dX12_ended_49 : decode cX12_ended 49 = .ok (.bipush 41, 2) := by decide +kernel
theorem dX12_ended_51 : decode cX12_ended 51 = .ok (.invokevirtual 325, 3) := by decide +kernel
theorem dX12_ended_54 : decode cX12_ended 54 = .ok (.ifCond .ne 5, 3) := by decide +kernel
theorem dX12_ended_57 : decode cX12_ended 57 = .ok (.iconst 0, 1) := by decide +kernel
theorem dX12_ended_58 : decode cX12_ended 58 = .ok (.ireturn, 1) := by decide +kernel
theorem dX12_ended_59 : decode cX12_ended 59 = .ok (.aload_n 0, 1) := by decide +kernel
theorem dX12_ended_60 : decode cX12_ended 60 = .ok (.dup, 1) := by decide +kernel
theorem dX12_ended_61 : decode cX12_ended 61 = .ok (.getfield 319, 3) := by decide +kernel
theorem dX12_ended_64 : decode cX12_ended 64 = .ok (.iconst 1, 1) := by decide +kernel
theorem dX12_ended_65 : decode cX12_ended 65 = .ok (.isub, 1) := by decide +kernel
theorem dX12_ended_66 : decode cX12_ended 66 = .ok (.putfield 319, 3) := by decide +kernel
theorem dX12_ended_69 : decode cX12_ended 69 = .ok (.goto (-69), 3) := by decide +kernel
theorem dX12_ended_72 : decode cX12_ended 72 = .ok (.iconst 1, 1) := by decide +kernel
theorem dX12_ended_73 : decode cX12_ended 73 = .ok (.ireturn, 1) := by decide +kernel
theorem dX12_text_0 : decode cX12_text 0 = .ok (.aload_n 0, 1) := by decide +kernel
theorem dX12_text_1 : decode cX12_text 1 = .ok (.iconst 0, 1) := by decide +kernel
theorem dX12_text_2 : decode cX12_text 2 = .ok (.putfield 319, 3) := by decide +kernel
theorem dX12_text_5 : decode cX12_text 5 = .ok (.aload_n 0, 1) := by decide +kernel
theorem dX12_text_6 : decode cX12_text 6 = .ok (.getfield 17, 3) := by decide +kernel
theorem dX12_text_9 : decode cX12_text 9 = .ok (.aload_n 0, 1) := by decide +kernel
theorem dX12_text_10 : decode cX12_text 10 = .ok (.getfield 307, 3) := by decide +kernel
theorem dX12_text_13 : decode cX12_text 13 = .ok (.iconst 0, 1) := by decide +kernel
theorem dX12_text_14 : decode cX12_text 14 = .ok (.iastore, 1) := by decide +kernel
theorem dX12_text_15 : decode cX12_text 15 = .ok (.aload_n 0, 1) := by decide +kernel
theorem dX12_text_16 : decode cX12_text 16 = .ok (.getfield 50, 3) := by decide +kernel
theorem dX12_text_19 : decode cX12_text 19 = .ok (.aload_n 0, 1) := by decide +kernel
theorem dX12_text_20 : decode cX12_text 20 = .ok (.getfield 307, 3) := by decide +kernel
theorem dX12_text_23 : decode cX12_text 23 = .ok (.iconst 0, 1) := by decide +kernel
theorem dX12_text_24 : decode cX12_text 24 = .ok (.iastore, 1) := by decide +kernel
theorem dX12_text_25 : decode cX12_text 25 = .ok (.aload_n 0, 1) := by decide +kernel
theorem dX12_text_26 : decode cX12_text 26 = .ok (.getfield 319, 3) := by decide +kernel
theorem dX12_text_29 : decode cX12_text 29 = .ok (.istore_n 1, 1) := by decide +kernel
theorem dX12_text_30 : decode cX12_text 30 = .ok (.aload_n 0, 1) := by decide +kernel
theorem dX12_text_31 : decode cX12_text 31 = .ok (.invokevirtual 328, 3) := by decide +kernel
theorem dX12_text_34 : decode cX12_text 34 = .ok (.ifCond .ne 5, 3) := by decide +kernel
theorem dX12_text_37 : decode cX12_text 37 = .ok (.iconst 0, 1) := by decide +kernel
theorem dX12_text_38 : decode cX12_text 38 = .ok (.ireturn, 1) := by decide +kernel
theorem dX12_text_39 : decode cX12_text 39 = .ok (.aload_n 0, 1) := by decide +kernel
theorem dX12_text_40 : decode cX12_text 40 = .ok (.getfield 319, 3) := by decide +kernel
theorem dX12_text_43 : decode cX12_text 43 = .ok (.iload_n 1, 1) := by decide +kernel
theorem dX12_text_44 : decode cX12_text 44 = .ok (.if_icmp .ne 12, 3) := by decide +kernel
theorem dX12_text_47 : decode cX12_text 47 = .ok (.aload_n 0, 1) := by decide +kernel
theorem dX12_text_48 : decode cX12_text 48 = .ok (.invokevirtual 331, 3) := by decide +kernel
theorem dX12_text_51 : decode cX12_text 51 = .ok (.ifCond .ne 5, 3) := by decide +kernel
theorem dX12_text_54 : decode cX12_text 54 = .ok (.iconst 0, 1) := by decide +kernel
theorem dX12_text_55 : decode cX12_text 55 = .ok (.ireturn, 1) := by decide +kernel
theorem dX12_text_56 : decode cX12_text 56 = .ok (.aload_n 0, 1) := by decide +kernel
theorem dX12_text_57 : decode cX12_text 57 = .ok (.getfield 319, 3) := by decide +kernel
theorem dX12_text_60 : decode cX12_text 60 = .ok (.ifCond .gt (-35), 3) := by decide +kernel
theorem dX12_text_63 : decode cX12_text 63 = .ok (.aload_n 0, 1) := by decide +kernel
theorem dX12_text_64 : decode cX12_text 64 = .ok (.invokevirtual 275, 3) := by decide +kernel
theorem dX12_text_67 : decode cX12_text 67 = .ok (.iconst (-1), 1) := by decide +kernel
theorem dX12_text_68 : decode cX12_text 68 = .ok (.if_icmp .eq 15, 3) := by decide +kernel
theorem dX12_text_71 : decode cX12_text 71 = .ok (.aload_n 0, 1) := by decide +kernel
theorem dX12_text_72 : decode cX12_text 72 = .ok (.iconst 0, 1) := by decide +kernel
theorem dX12_text_73 : decode cX12_text 73 = .ok (.aload_n 0, 1) := by decide +kernel
theorem dX12_text_74 : decode cX12_text 74 = .ok (.getfield 272, 3) := by decide +kernel
theorem dX12_text_77 : decode cX12_text 77 = .ok (.invokevirtual 279, 3) := by decide +kernel
theorem dX12_text_80 : decode cX12_text 80 = .ok (.ifCond .eq 7, 3) := by decide +kernel
theorem dX12_text_83 : decode cX12_text 83 = .ok (.iconst 1, 1) := by decide +kernel
theorem dX12_text_84 : decode cX12_text 84 = .ok (.goto 4, 3) := by decide +kernel
theorem dX12_text_87 : decode cX12_text 87 = .ok (.iconst 0, 1) := by decide +kernel
theorem dX12_text_88 : decode cX12_text 88 = .ok (.ireturn, 1) := by decide +kernel
theorem dX12_form_0 : decode cX12_form 0 = .ok (.aload_n 0, 1) := by decide +kernel
theorem dX12_form_1 : decode cX12_form 1 = .ok (.getfield 307, 3) := by decide +kernel
theorem dX12_form_4 : decode cX12_form 4 = .ok (.bipush 20, 2) := by decide +kernel
theorem dX12_form_6 : decode cX12_form 6 = .ok (.if_icmp .ne 5, 3) := by decide +kernel
theorem dX12_form_9 : decode cX12_form 9 = .ok (.iconst (-1), 1) := by decide +kernel
theorem dX12_form_10 : decode cX12_form 10 = .ok (.ireturn, 1) := by decide +kernel
theorem dX12_form_11 : decode cX12_form 11 = .ok (.aload_n 0, 1) := by decide +kernel
theorem dX12_form_12 : decode cX12_form 12 = .ok (.iconst 0, 1) := by decide +kernel
theorem dX12_form_13 : decode cX12_form 13 = .ok (.putfield 272, 3) := by decide +kernel
theorem dX12_form_16 : decode cX12_form 16 = .ok (.aload_n 0, 1) := by decide +kernel
theorem dX12_form_17 : decode cX12_form 17 = .ok (.iconst 0, 1) := by decide +kernel
theorem dX12_form_18 : decode cX12_form 18 = .ok (.putfield 269, 3) := by decide +kernel
theorem dX12_form_21 : decode cX12_form 21 = .ok (.aload_n 0, 1) := by decide +kernel
theorem dX12_form_22 : decode cX12_form 22 = .ok (.invokevirtual 334, 3) := by decide +kernel
theorem dX12_form_25 : decode cX12_form 25 = .ok (.istore_n 1, 1) := by decide +kernel
theorem dX12_form_26 : decode cX12_form 26 = .ok (.aload_n 0, 1) := by decide +kernel
theorem dX12_form_27 : decode cX12_form 27 = .ok (.iconst 0, 1) := by decide +kernel
theorem dX12_form_28 : decode cX12_form 28 = .ok (.putfield 262, 3) := by decide +kernel
theorem dX12_form_31 : decode cX12_form 31 = .ok (.iload_n 1, 1) := by decide +kernel
theorem dX12_form_32 : decode cX12_form 32 = .ok (.ifCond .ne 11, 3) := by decide +kernel
theorem dX12_form_35 : decode cX12_form 35 = .ok (.bipush (-2), 2) := by decide +kernel
theorem dX12_form_37 : decode cX12_form 37 = .ok (.aload_n 0, 1) := by decide +kernel
theorem dX12_form_38 : decode cX12_form 38 = .ok (.getfield 269, 3) := by decide +kernel
theorem dX12_form_41 : decode cX12_form 41 = .ok (.isub, 1) := by decide +kernel
theorem dX12_form_42 : decode cX12_form 42 = .ok (.ireturn, 1) := by decide +kernel
theorem dX12_form_43 : decode cX12_form 43 = .ok (.aload_n 0, 1) := by decide +kernel
theorem dX12_form_44 : decode cX12_form 44 = .ok (.dup, 1) := by decide +kernel
theorem dX12_form_45 : decode cX12_form 45 = .ok (.getfield 307, 3) := by decide +kernel
theorem dX12_form_48 : decode cX12_form 48 = .ok (.iconst 1, 1) := by decide +kernel
theorem dX12_form_49 : decode cX12_form 49 = .ok (.iadd, 1) := by decide +kernel
theorem dX12_form_50 : decode cX12_form 50 = .ok (.putfield 307, 3) := by decide +kernel
theorem dX12_form_53 : decode cX12_form 53 = .ok (.aload_n 0, 1) := by decide +kernel
theorem dX12_form_54 : decode cX12_form 54 = .ok (.getfield 307, 3) := by decide +kernel
theorem dX12_form_57 : decode cX12_form 57 = .ok (.iconst 1, 1) := by decide +kernel
theorem dX12_form_58 : decode cX12_form 58 = .ok (.isub, 1) := by decide +kernel
theorem dX12_form_59 : decode cX12_form 59 = .ok (.ireturn, 1) := by decide +kernel
theorem dX12_isForm_0 : decode cX12_isForm 0 = .ok (.iload_n 1, 1) := by decide +kernel
theorem dX12_isForm_1 : decode cX12_isForm 1 = .ok (.ifCond .lt 15, 3) := by decide +kernel
theorem dX12_isForm_4 : decode cX12_isForm 4 = .ok (.iload_n 1, 1) := by decide +kernel
theorem dX12_isForm_5 : decode cX12_isForm 5 = .ok (.aload_n 0, 1) := by decide +kernel
theorem dX12_isForm_6 : decode cX12_isForm 6 = .ok (.getfield 307, 3) := by decide +kernel
theorem dX12_isForm_9 : decode cX12_isForm 9 = .ok (.if_icmp .ge 7, 3) := by decide +kernel
theorem dX12_isForm_12 : decode cX12_isForm 12 = .ok (.iconst 1, 1) := by decide +kernel
theorem dX12_isForm_13 : decode cX12_isForm 13 = .ok (.goto 4, 3) := by decide +kernel
theorem dX12_isForm_16 : decode cX12_isForm 16 = .ok (.iconst 0, 1) := by decide +kernel
theorem dX12_isForm_17 : decode cX12_isForm 17 = .ok (.ireturn, 1) := by decide +kernel
theorem dX12_word_0 : decode cX12_word 0 = .ok (.aload_n 0, 1) := by decide +kernel
theorem dX12_word_1 : decode cX12_word 1 = .ok (.iload_n 1, 1) := by decide +kernel
theorem dX12_word_2 : decode cX12_word 2 = .ok (.invokevirtual 337, 3) := by decide +kernel
theorem dX12_word_5 : decode cX12_word 5 = .ok (.ifCond .eq 21, 3) := by decide +kernel
theorem dX12_word_8 : decode cX12_word 8 = .ok (.iload_n 2, 1) := by decide +kernel
theorem dX12_word_9 : decode cX12_word 9 = .ok (.i2l, 1) := by decide +kernel
theorem dX12_word_10 : decode cX12_word 10 = .ok (.lconst 0, 1) := by decide +kernel
theorem dX12_word_11 : decode cX12_word 11 = .ok (.aload_n 0, 1) := by decide +kernel
theorem dX12_word_12 : decode cX12_word 12 = .ok (.getfield 17, 3) := by decide +kernel
theorem dX12_word_15 : decode cX12_word 15 = .ok (.iload_n 1, 1) := by decide +kernel
theorem dX12_word_16 : decode cX12_word 16 = .ok (.iaload, 1) := by decide +kernel
theorem dX12_word_17 : decode cX12_word 17 = .ok (.iconst 1, 1) := by decide +kernel
theorem dX12_word_18 : decode cX12_word 18 = .ok (.isub, 1) := by decide +kernel
theorem dX12_word_19 : decode cX12_word 19 = .ok (.i2l, 1) := by decide +kernel
theorem dX12_word_20 : decode cX12_word 20 = .ok (.invokestatic 245, 3) := by decide +kernel
theorem dX12_word_23 : decode cX12_word 23 = .ok (.ifCond .ne 5, 3) := by decide +kernel
theorem dX12_word_26 : decode cX12_word 26 = .ok (.iconst (-1), 1) := by decide +kernel
theorem dX12_word_27 : decode cX12_word 27 = .ok (.ireturn, 1) := by decide +kernel
theorem dX12_word_28 : decode cX12_word 28 = .ok (.bipush 40, 2) := by decide +kernel
theorem dX12_word_30 : decode cX12_word 30 = .ok (.iload_n 1, 1) := by decide +kernel
theorem dX12_word_31 : decode cX12_word 31 = .ok (.imul, 1) := by decide +kernel
theorem dX12_word_32 : decode cX12_word 32 = .ok (.iload_n 2, 1) := by decide +kernel
theorem dX12_word_33 : decode cX12_word 33 = .ok (.iadd, 1) := by decide +kernel
theorem dX12_word_34 : decode cX12_word 34 = .ok (.istore 4, 2) := by decide +kernel
theorem dX12_word_36 : decode cX12_word 36 = .ok (.iload_n 3, 1) := by decide +kernel
theorem dX12_word_37 : decode cX12_word 37 = .ok (.ifCond .ne 13, 3) := by decide +kernel
theorem dX12_word_40 : decode cX12_word 40 = .ok (.aload_n 0, 1) := by decide +kernel
theorem dX12_word_41 : decode cX12_word 41 = .ok (.getfield 20, 3) := by decide +kernel
theorem dX12_word_44 : decode cX12_word 44 = .ok (.iload 4, 2) := by decide +kernel
theorem dX12_word_46 : decode cX12_word 46 = .ok (.iaload, 1) := by decide +kernel
theorem dX12_word_47 : decode cX12_word 47 = .ok (.goto 34, 3) := by decide +kernel
theorem dX12_word_50 : decode cX12_word 50 = .ok (.iload_n 3, 1) := by decide +kernel
theorem dX12_word_51 : decode cX12_word 51 = .ok (.iconst 1, 1) := by decide +kernel
theorem dX12_word_52 : decode cX12_word 52 = .ok (.if_icmp .ne 13, 3) := by decide +kernel
theorem dX12_word_55 : decode cX12_word 55 = .ok (.aload_n 0, 1) := by decide +kernel
theorem dX12_word_56 : decode cX12_word 56 = .ok (.getfield 26, 3) := by decide +kernel
theorem dX12_word_59 : decode cX12_word 59 = .ok (.iload 4, 2) := by decide +kernel
theorem dX12_word_61 : decode cX12_word 61 = .ok (.iaload, 1) := by decide +kernel
theorem dX12_word_62 : decode cX12_word 62 = .ok (.goto 19, 3) := by decide +kernel
theorem dX12_word_65 : decode cX12_word 65 = .ok (.iload_n 3, 1) := by decide +kernel
theorem dX12_word_66 : decode cX12_word 66 = .ok (.iconst 2, 1) := by decide +kernel
theorem dX12_word_67 : decode cX12_word 67 = .ok (.if_icmp .ne 13, 3) := by decide +kernel
theorem dX12_word_70 : decode cX12_word 70 = .ok (.aload_n 0, 1) := by decide +kernel
theorem dX12_word_71 : decode cX12_word 71 = .ok (.getfield 23, 3) := by decide +kernel
theorem dX12_word_74 : decode cX12_word 74 = .ok (.iload 4, 2) := by decide +kernel
theorem dX12_word_76 : decode cX12_word 76 = .ok (.iaload, 1) := by decide +kernel
theorem dX12_word_77 : decode cX12_word 77 = .ok (.goto 4, 3) := by decide +kernel
theorem dX12_word_80 : decode cX12_word 80 = .ok (.iconst (-1), 1) := by decide +kernel
theorem dX12_word_81 : decode cX12_word 81 = .ok (.ireturn, 1) := by decide +kernel
theorem dX12_words_0 : decode cX12_words 0 = .ok (.aload_n 0, 1) := by decide +kernel
theorem dX12_words_1 : decode cX12_words 1 = .ok (.iload_n 1, 1) := by decide +kernel
theorem dX12_words_2 : decode cX12_words 2 = .ok (.invokevirtual 337, 3) := by decide +kernel
theorem dX12_words_5 : decode cX12_words 5 = .ok (.ifCond .eq 12, 3) := by decide +kernel
theorem dX12_words_8 : decode cX12_words 8 = .ok (.aload_n 0, 1) := by decide +kernel
theorem dX12_words_9 : decode cX12_words 9 = .ok (.getfield 17, 3) := by decide +kernel
theorem dX12_words_12 : decode cX12_words 12 = .ok (.iload_n 1, 1) := by decide +kernel
theorem dX12_words_13 : decode cX12_words 13 = .ok (.iaload, 1) := by decide +kernel
theorem dX12_words_14 : decode cX12_words 14 = .ok (.goto 4, 3) := by decide +kernel
theorem dX12_words_17 : decode cX12_words 17 = .ok (.iconst (-1), 1) := by decide +kernel
theorem dX12_words_18 : decode cX12_words 18 = .ok (.ireturn, 1) := by decide +kernel
theorem dX12_asNow_0 : decode cX12_asNow 0 = .ok (.aload_n 0, 1) := by decide +kernel
theorem dX12_asNow_1 : decode cX12_asNow 1 = .ok (.aload_n 0, 1) := by decide +kernel
theorem dX12_asNow_2 : decode cX12_asNow 2 = .ok (.getfield 249, 3) := by decide +kernel
theorem dX12_asNow_5 : decode cX12_asNow 5 = .ok (.i2l, 1) := by decide +kernel
theorem dX12_asNow_6 : decode cX12_asNow 6 = .ok (.putfield 340, 3) := by decide +kernel
theorem dX12_asNow_9 : decode cX12_asNow 9 = .ok (.iconst 0, 1) := by decide +kernel
theorem dX12_asNow_10 : decode cX12_asNow 10 = .ok (.istore_n 1, 1) := by decide +kernel
theorem dX12_asNow_11 : decode cX12_asNow 11 = .ok (.iload_n 1, 1) := by decide +kernel
theorem dX12_asNow_12 : decode cX12_asNow 12 = .ok (.bipush 6, 2) := by decide +kernel
theorem dX12_asNow_14 : decode cX12_asNow 14 = .ok (.if_icmp .ge 25, 3) := by decide +kernel
theorem dX12_asNow_17 : decode cX12_asNow 17 = .ok (.aload_n 0, 1) := by decide +kernel
theorem dX12_asNow_18 : decode cX12_asNow 18 = .ok (.getfield 94, 3) := by decide +kernel
theorem dX12_asNow_21 : decode cX12_asNow 21 = .ok (.iload_n 1, 1) := by decide +kernel
theorem dX12_asNow_22 : decode cX12_asNow 22 = .ok (.aload_n 0, 1) := by decide +kernel
theorem dX12_asNow_23 : decode cX12_asNow 23 = .ok (.iload_n 1, 1) := by decide +kernel
theorem dX12_asNow_24 : decode cX12_asNow 24 = .ok (.aload_n 0, 1) := by decide +kernel
theorem dX12_asNow_25 : decode cX12_asNow 25 = .ok (.getfield 249, 3) := by decide +kernel
theorem dX12_asNow_28 : decode cX12_asNow 28 = .ok (.invokevirtual 258, 3) := by decide +kernel
theorem dX12_asNow_31 : decode cX12_asNow 31 = .ok (.i2l, 1) := by decide +kernel
theorem dX12_asNow_32 : decode cX12_asNow 32 = .ok (.lastore, 1) := by decide +kernel
theorem dX12_asNow_33 : decode cX12_asNow 33 = .ok (.iinc 1 1, 3) := by decide +kernel
theorem dX12_asNow_36 : decode cX12_asNow 36 = .ok (.goto (-25), 3) := by decide +kernel
theorem dX12_asNow_39 : decode cX12_asNow 39 = .ok (.return_, 1) := by decide +kernel
theorem dX12_sumOf_0 : decode cX12_sumOf 0 = .ok (.lconst 0, 1) := by decide +kernel
theorem dX12_sumOf_1 : decode cX12_sumOf 1 = .ok (.lstore 4, 2) := by decide +kernel
theorem dX12_sumOf_3 : decode cX12_sumOf 3 = .ok (.lconst 0, 1) := by decide +kernel
theorem dX12_sumOf_4 : decode cX12_sumOf 4 = .ok (.lstore 6, 2) := by decide +kernel
theorem dX12_sumOf_6 : decode cX12_sumOf 6 = .ok (.iload_n 1, 1) := by decide +kernel
theorem dX12_sumOf_7 : decode cX12_sumOf 7 = .ok (.iload_n 2, 1) := by decide +kernel
theorem dX12_sumOf_8 : decode cX12_sumOf 8 = .ok (.iadd, 1) := by decide +kernel
theorem dX12_sumOf_9 : decode cX12_sumOf 9 = .ok (.istore 8, 2) := by decide +kernel
theorem dX12_sumOf_11 : decode cX12_sumOf 11 = .ok (.iload 8, 2) := by decide +kernel
theorem dX12_sumOf_13 : decode cX12_sumOf 13 = .ok (.iload_n 1, 1) := by decide +kernel
theorem dX12_sumOf_14 : decode cX12_sumOf 14 = .ok (.iload_n 3, 1) := by decide +kernel
theorem dX12_sumOf_15 : decode cX12_sumOf 15 = .ok (.iadd, 1) := by decide +kernel
theorem dX12_sumOf_16 : decode cX12_sumOf 16 = .ok (.if_icmp .ge 114, 3) := by decide +kernel
theorem dX12_sumOf_19 : decode cX12_sumOf 19 = .ok (.aload_n 0, 1) := by decide +kernel
theorem dX12_sumOf_20 : decode cX12_sumOf 20 = .ok (.getfield 56, 3) := by decide +kernel
theorem dX12_sumOf_23 : decode cX12_sumOf 23 = .ok (.iload 8, 2) := by decide +kernel
theorem dX12_sumOf_25 : decode cX12_sumOf 25 = .ok (.iaload, 1) := by decide +kernel
theorem dX12_sumOf_26 : decode cX12_sumOf 26 = .ok (.ifCond .ge 14, 3) := by decide +kernel
theorem dX12_sumOf_29 : decode cX12_sumOf 29 = .ok (.aload_n 0, 1) := by decide +kernel
theorem dX12_sumOf_30 : decode cX12_sumOf 30 = .ok (.getfield 59, 3) := by decide +kernel
theorem dX12_sumOf_33 : decode cX12_sumOf 33 = .ok (.iload 8, 2) := by decide +kernel
theorem dX12_sumOf_35 : decode cX12_sumOf 35 = .ok (.iaload, 1) := by decide +kernel
theorem dX12_sumOf_36 : decode cX12_sumOf 36 = .ok (.i2l, 1) := by decide +kernel
theorem dX12_sumOf_37 : decode cX12_sumOf 37 = .ok (.goto 34, 3) := by decide +kernel
theorem dX12_sumOf_40 : decode cX12_sumOf 40 = .ok (.aload_n 0, 1) := by decide +kernel
theorem dX12_sumOf_41 : decode cX12_sumOf 41 = .ok (.getfield 56, 3) := by decide +kernel
theorem dX12_sumOf_44 : decode cX12_sumOf 44 = .ok (.iload 8, 2) := by decide +kernel
theorem dX12_sumOf_46 : decode cX12_sumOf 46 = .ok (.iaload, 1) := by decide +kernel
theorem dX12_sumOf_47 : decode cX12_sumOf 47 = .ok (.bipush 6, 2) := by decide +kernel
theorem dX12_sumOf_49 : decode cX12_sumOf 49 = .ok (.if_icmp .ne 10, 3) := by decide +kernel
theorem dX12_sumOf_52 : decode cX12_sumOf 52 = .ok (.aload_n 0, 1) := by decide +kernel
theorem dX12_sumOf_53 : decode cX12_sumOf 53 = .ok (.getfield 340, 3) := by decide +kernel
theorem dX12_sumOf_56 : decode cX12_sumOf 56 = .ok (.goto 15, 3) := by decide +kernel
theorem dX12_sumOf_59 : decode cX12_sumOf 59 = .ok (.aload_n 0, 1) := by decide +kernel
theorem dX12_sumOf_60 : decode cX12_sumOf 60 = .ok (.getfield 94, 3) := by decide +kernel
theorem dX12_sumOf_63 : decode cX12_sumOf 63 = .ok (.aload_n 0, 1) := by decide +kernel
theorem dX12_sumOf_64 : decode cX12_sumOf 64 = .ok (.getfield 56, 3) := by decide +kernel
theorem dX12_sumOf_67 : decode cX12_sumOf 67 = .ok (.iload 8, 2) := by decide +kernel
theorem dX12_sumOf_69 : decode cX12_sumOf 69 = .ok (.iaload, 1) := by decide +kernel
theorem dX12_sumOf_70 : decode cX12_sumOf 70 = .ok (.laload, 1) := by decide +kernel
theorem dX12_sumOf_71 : decode cX12_sumOf 71 = .ok (.lstore 9, 2) := by decide +kernel
theorem dX12_sumOf_73 : decode cX12_sumOf 73 = .ok (.aload_n 0, 1) := by decide +kernel
theorem dX12_sumOf_74 : decode cX12_sumOf 74 = .ok (.getfield 53, 3) := by decide +kernel
theorem dX12_sumOf_77 : decode cX12_sumOf 77 = .ok (.iload 8, 2) := by decide +kernel
theorem dX12_sumOf_79 : decode cX12_sumOf 79 = .ok (.iaload, 1) := by decide +kernel
theorem dX12_sumOf_80 : decode cX12_sumOf 80 = .ok (.bipush 42, 2) := by decide +kernel
theorem dX12_sumOf_82 : decode cX12_sumOf 82 = .ok (.if_icmp .ne 13, 3) := by decide +kernel
theorem dX12_sumOf_85 : decode cX12_sumOf 85 = .ok (.lload 6, 2) := by decide +kernel
theorem dX12_sumOf_87 : decode cX12_sumOf 87 = .ok (.lload 9, 2) := by decide +kernel
theorem dX12_sumOf_89 : decode cX12_sumOf 89 = .ok (.lmul, 1) := by decide +kernel
theorem dX12_sumOf_90 : decode cX12_sumOf 90 = .ok (.lstore 6, 2) := by decide +kernel
theorem dX12_sumOf_92 : decode cX12_sumOf 92 = .ok (.goto 32, 3) := by decide +kernel
theorem dX12_sumOf_95 : decode cX12_sumOf 95 = .ok (.lload 4, 2) := by decide +kernel
theorem dX12_sumOf_97 : decode cX12_sumOf 97 = .ok (.lload 6, 2) := by decide +kernel
theorem dX12_sumOf_99 : decode cX12_sumOf 99 = .ok (.ladd, 1) := by decide +kernel
theorem dX12_sumOf_100 : decode cX12_sumOf 100 = .ok (.lstore 4, 2) := by decide +kernel
theorem dX12_sumOf_102 : decode cX12_sumOf 102 = .ok (.aload_n 0, 1) := by decide +kernel
theorem dX12_sumOf_103 : decode cX12_sumOf 103 = .ok (.getfield 53, 3) := by decide +kernel
theorem dX12_sumOf_106 : decode cX12_sumOf 106 = .ok (.iload 8, 2) := by decide +kernel
theorem dX12_sumOf_108 : decode cX12_sumOf 108 = .ok (.iaload, 1) := by decide +kernel
theorem dX12_sumOf_109 : decode cX12_sumOf 109 = .ok (.bipush 45, 2) := by decide +kernel
theorem dX12_sumOf_111 : decode cX12_sumOf 111 = .ok (.if_icmp .ne 9, 3) := by decide +kernel
theorem dX12_sumOf_114 : decode cX12_sumOf 114 = .ok (.lload 9, 2) := by decide +kernel
theorem dX12_sumOf_116 : decode cX12_sumOf 116 = .ok (.lneg, 1) := by decide +kernel
theorem dX12_sumOf_117 : decode cX12_sumOf 117 = .ok (.goto 5, 3) := by decide +kernel
theorem dX12_sumOf_120 : decode cX12_sumOf 120 = .ok (.lload 9, 2) := by decide +kernel
theorem dX12_sumOf_122 : decode cX12_sumOf 122 = .ok (.lstore 6, 2) := by decide +kernel
theorem dX12_sumOf_124 : decode cX12_sumOf 124 = .ok (.iinc 8 1, 3) := by decide +kernel
theorem dX12_sumOf_127 : decode cX12_sumOf 127 = .ok (.goto (-116), 3) := by decide +kernel
theorem dX12_sumOf_130 : decode cX12_sumOf 130 = .ok (.lload 4, 2) := by decide +kernel
theorem dX12_sumOf_132 : decode cX12_sumOf 132 = .ok (.lload 6, 2) := by decide +kernel
theorem dX12_sumOf_134 : decode cX12_sumOf 134 = .ok (.ladd, 1) := by decide +kernel
theorem dX12_sumOf_135 : decode cX12_sumOf 135 = .ok (.lreturn, 1) := by decide +kernel
theorem dX12_holds_0 : decode cX12_holds 0 = .ok (.bipush 40, 2) := by decide +kernel
theorem dX12_holds_2 : decode cX12_holds 2 = .ok (.iload_n 1, 1) := by decide +kernel
theorem dX12_holds_3 : decode cX12_holds 3 = .ok (.bipush 40, 2) := by decide +kernel
theorem dX12_holds_5 : decode cX12_holds 5 = .ok (.idiv, 1) := by decide +kernel
theorem dX12_holds_6 : decode cX12_holds 6 = .ok (.imul, 1) := by decide +kernel
theorem dX12_holds_7 : decode cX12_holds 7 = .ok (.istore_n 2, 1) := by decide +kernel
theorem dX12_holds_8 : decode cX12_holds 8 = .ok (.aload_n 0, 1) := by decide +kernel
theorem dX12_holds_9 : decode cX12_holds 9 = .ok (.iload_n 2, 1) := by decide +kernel
theorem dX12_holds_10 : decode cX12_holds 10 = .ok (.aload_n 0, 1) := by decide +kernel
theorem dX12_holds_11 : decode cX12_holds 11 = .ok (.getfield 38, 3) := by decide +kernel
theorem dX12_holds_14 : decode cX12_holds 14 = .ok (.iload_n 1, 1) := by decide +kernel
theorem dX12_holds_15 : decode cX12_holds 15 = .ok (.iaload, 1) := by decide +kernel
theorem dX12_holds_16 : decode cX12_holds 16 = .ok (.aload_n 0, 1) := by decide +kernel
theorem dX12_holds_17 : decode cX12_holds 17 = .ok (.getfield 41, 3) := by decide +kernel
theorem dX12_holds_20 : decode cX12_holds 20 = .ok (.iload_n 1, 1) := by decide +kernel
theorem dX12_holds_21 : decode cX12_holds 21 = .ok (.iaload, 1) := by decide +kernel
theorem dX12_holds_22 : decode cX12_holds 22 = .ok (.invokevirtual 344, 3) := by decide +kernel
theorem dX12_holds_25 : decode cX12_holds 25 = .ok (.lstore_n 3, 1) := by decide +kernel
theorem dX12_holds_26 : decode cX12_holds 26 = .ok (.aload_n 0, 1) := by decide +kernel
theorem dX12_holds_27 : decode cX12_holds 27 = .ok (.iload_n 2, 1) := by decide +kernel
theorem dX12_holds_28 : decode cX12_holds 28 = .ok (.aload_n 0, 1) := by decide +kernel
theorem dX12_holds_29 : decode cX12_holds 29 = .ok (.getfield 41, 3) := by decide +kernel
theorem dX12_holds_32 : decode cX12_holds 32 = .ok (.iload_n 1, 1) := by decide +kernel
theorem dX12_holds_33 : decode cX12_holds 33 = .ok (.iaload, 1) := by decide +kernel
theorem dX12_holds_34 : decode cX12_holds 34 = .ok (.aload_n 0, 1) := by decide +kernel
theorem dX12_holds_35 : decode cX12_holds 35 = .ok (.getfield 44, 3) := by decide +kernel
theorem dX12_holds_38 : decode cX12_holds 38 = .ok (.iload_n 1, 1) := by decide +kernel
theorem dX12_holds_39 : decode cX12_holds 39 = .ok (.iaload, 1) := by decide +kernel
theorem dX12_holds_40 : decode cX12_holds 40 = .ok (.invokevirtual 344, 3) := by decide +kernel
theorem dX12_holds_43 : decode cX12_holds 43 = .ok (.lstore 5, 2) := by decide +kernel
theorem dX12_holds_45 : decode cX12_holds 45 = .ok (.aload_n 0, 1) := by decide +kernel
theorem dX12_holds_46 : decode cX12_holds 46 = .ok (.getfield 47, 3) := by decide +kernel
theorem dX12_holds_49 : decode cX12_holds 49 = .ok (.iload_n 1, 1) := by decide +kernel
theorem dX12_holds_50 : decode cX12_holds 50 = .ok (.iaload, 1) := by decide +kernel
theorem dX12_holds_51 : decode cX12_holds 51 = .ok (.tableswitch 81 0 3 #[29, 42, 55, 68], 29) := by decide +kernel
theorem dX12_holds_80 : decode cX12_holds 80 = .ok (.lload_n 3, 1) := by decide +kernel
theorem dX12_holds_81 : decode cX12_holds 81 = .ok (.lload 5, 2) := by decide +kernel
theorem dX12_holds_83 : decode cX12_holds 83 = .ok (.lcmp, 1) := by decide +kernel
theorem dX12_holds_84 : decode cX12_holds 84 = .ok (.ifCond .ge 7, 3) := by decide +kernel
theorem dX12_holds_87 : decode cX12_holds 87 = .ok (.iconst 1, 1) := by decide +kernel
theorem dX12_holds_88 : decode cX12_holds 88 = .ok (.goto 4, 3) := by decide +kernel
theorem dX12_holds_91 : decode cX12_holds 91 = .ok (.iconst 0, 1) := by decide +kernel
theorem dX12_holds_92 : decode cX12_holds 92 = .ok (.ireturn, 1) := by decide +kernel
theorem dX12_holds_93 : decode cX12_holds 93 = .ok (.lload_n 3, 1) := by decide +kernel
theorem dX12_holds_94 : decode cX12_holds 94 = .ok (.lload 5, 2) := by decide +kernel
theorem dX12_holds_96 : decode cX12_holds 96 = .ok (.lcmp, 1) := by decide +kernel
theorem dX12_holds_97 : decode cX12_holds 97 = .ok (.ifCond .gt 7, 3) := by decide +kernel
theorem dX12_holds_100 : decode cX12_holds 100 = .ok (.iconst 1, 1) := by decide +kernel
theorem dX12_holds_101 : decode cX12_holds 101 = .ok (.goto 4, 3) := by decide +kernel
theorem dX12_holds_104 : decode cX12_holds 104 = .ok (.iconst 0, 1) := by decide +kernel
theorem dX12_holds_105 : decode cX12_holds 105 = .ok (.ireturn, 1) := by decide +kernel
theorem dX12_holds_106 : decode cX12_holds 106 = .ok (.lload_n 3, 1) := by decide +kernel
theorem dX12_holds_107 : decode cX12_holds 107 = .ok (.lload 5, 2) := by decide +kernel
theorem dX12_holds_109 : decode cX12_holds 109 = .ok (.lcmp, 1) := by decide +kernel
theorem dX12_holds_110 : decode cX12_holds 110 = .ok (.ifCond .ne 7, 3) := by decide +kernel
theorem dX12_holds_113 : decode cX12_holds 113 = .ok (.iconst 1, 1) := by decide +kernel
theorem dX12_holds_114 : decode cX12_holds 114 = .ok (.goto 4, 3) := by decide +kernel
theorem dX12_holds_117 : decode cX12_holds 117 = .ok (.iconst 0, 1) := by decide +kernel
theorem dX12_holds_118 : decode cX12_holds 118 = .ok (.ireturn, 1) := by decide +kernel
theorem dX12_holds_119 : decode cX12_holds 119 = .ok (.lload_n 3, 1) := by decide +kernel
theorem dX12_holds_120 : decode cX12_holds 120 = .ok (.lload 5, 2) := by decide +kernel
theorem dX12_holds_122 : decode cX12_holds 122 = .ok (.lcmp, 1) := by decide +kernel
theorem dX12_holds_123 : decode cX12_holds 123 = .ok (.ifCond .lt 7, 3) := by decide +kernel
theorem dX12_holds_126 : decode cX12_holds 126 = .ok (.iconst 1, 1) := by decide +kernel
theorem dX12_holds_127 : decode cX12_holds 127 = .ok (.goto 4, 3) := by decide +kernel
theorem dX12_holds_130 : decode cX12_holds 130 = .ok (.iconst 0, 1) := by decide +kernel
theorem dX12_holds_131 : decode cX12_holds 131 = .ok (.ireturn, 1) := by decide +kernel
theorem dX12_holds_132 : decode cX12_holds 132 = .ok (.lload_n 3, 1) := by decide +kernel
theorem dX12_holds_133 : decode cX12_holds 133 = .ok (.lload 5, 2) := by decide +kernel
theorem dX12_holds_135 : decode cX12_holds 135 = .ok (.lcmp, 1) := by decide +kernel
theorem dX12_holds_136 : decode cX12_holds 136 = .ok (.ifCond .le 7, 3) := by decide +kernel
theorem dX12_holds_139 : decode cX12_holds 139 = .ok (.iconst 1, 1) := by decide +kernel
theorem dX12_holds_140 : decode cX12_holds 140 = .ok (.goto 4, 3) := by decide +kernel
theorem dX12_holds_143 : decode cX12_holds 143 = .ok (.iconst 0, 1) := by decide +kernel
theorem dX12_holds_144 : decode cX12_holds 144 = .ok (.ireturn, 1) := by decide +kernel
theorem dX12_isLapsed_0 : decode cX12_isLapsed 0 = .ok (.aload_n 0, 1) := by decide +kernel
theorem dX12_isLapsed_1 : decode cX12_isLapsed 1 = .ok (.getfield 29, 3) := by decide +kernel
theorem dX12_isLapsed_4 : decode cX12_isLapsed 4 = .ok (.iload_n 1, 1) := by decide +kernel
theorem dX12_isLapsed_5 : decode cX12_isLapsed 5 = .ok (.iaload, 1) := by decide +kernel
theorem dX12_isLapsed_6 : decode cX12_isLapsed 6 = .ok (.istore_n 2, 1) := by decide +kernel
theorem dX12_isLapsed_7 : decode cX12_isLapsed 7 = .ok (.iload_n 2, 1) := by decide +kernel
theorem dX12_isLapsed_8 : decode cX12_isLapsed 8 = .ok (.ifCond .lt 34, 3) := by decide +kernel
theorem dX12_isLapsed_11 : decode cX12_isLapsed 11 = .ok (.aload_n 0, 1) := by decide +kernel
theorem dX12_isLapsed_12 : decode cX12_isLapsed 12 = .ok (.getfield 20, 3) := by decide +kernel
theorem dX12_isLapsed_15 : decode cX12_isLapsed 15 = .ok (.iload_n 2, 1) := by decide +kernel
theorem dX12_isLapsed_16 : decode cX12_isLapsed 16 = .ok (.iaload, 1) := by decide +kernel
theorem dX12_isLapsed_17 : decode cX12_isLapsed 17 = .ok (.bipush 8, 2) := by decide +kernel
theorem dX12_isLapsed_19 : decode cX12_isLapsed 19 = .ok (.if_icmp .ne 13, 3) := by decide +kernel
theorem dX12_isLapsed_22 : decode cX12_isLapsed 22 = .ok (.aload_n 0, 1) := by decide +kernel
theorem dX12_isLapsed_23 : decode cX12_isLapsed 23 = .ok (.iload_n 2, 1) := by decide +kernel
theorem dX12_isLapsed_24 : decode cX12_isLapsed 24 = .ok (.invokevirtual 348, 3) := by decide +kernel
theorem dX12_isLapsed_27 : decode cX12_isLapsed 27 = .ok (.ifCond .eq 5, 3) := by decide +kernel
theorem dX12_isLapsed_30 : decode cX12_isLapsed 30 = .ok (.iconst 1, 1) := by decide +kernel
theorem dX12_isLapsed_31 : decode cX12_isLapsed 31 = .ok (.ireturn, 1) := by decide +kernel
theorem dX12_isLapsed_32 : decode cX12_isLapsed 32 = .ok (.aload_n 0, 1) := by decide +kernel
theorem dX12_isLapsed_33 : decode cX12_isLapsed 33 = .ok (.getfield 29, 3) := by decide +kernel
theorem dX12_isLapsed_36 : decode cX12_isLapsed 36 = .ok (.iload_n 2, 1) := by decide +kernel
theorem dX12_isLapsed_37 : decode cX12_isLapsed 37 = .ok (.iaload, 1) := by decide +kernel
theorem dX12_isLapsed_38 : decode cX12_isLapsed 38 = .ok (.istore_n 2, 1) := by decide +kernel
theorem dX12_isLapsed_39 : decode cX12_isLapsed 39 = .ok (.goto (-32), 3) := by decide +kernel
theorem dX12_isLapsed_42 : decode cX12_isLapsed 42 = .ok (.iconst 0, 1) := by decide +kernel
theorem dX12_isLapsed_43 : decode cX12_isLapsed 43 = .ok (.ireturn, 1) := by decide +kernel
theorem dX12_untils_0 : decode cX12_untils 0 = .ok (.iconst 0, 1) := by decide +kernel
theorem dX12_untils_1 : decode cX12_untils 1 = .ok (.istore_n 2, 1) := by decide +kernel
theorem dX12_untils_2 : decode cX12_untils 2 = .ok (.aload_n 0, 1) := by decide +kernel
theorem dX12_untils_3 : decode cX12_untils 3 = .ok (.getfield 29, 3) := by decide +kernel
theorem dX12_untils_6 : decode cX12_untils 6 = .ok (.iload_n 1, 1) := by decide +kernel
theorem dX12_untils_7 : decode cX12_untils 7 = .ok (.iaload, 1) := by decide +kernel
theorem dX12_untils_8 : decode cX12_untils 8 = .ok (.istore_n 3, 1) := by decide +kernel
theorem dX12_untils_9 : decode cX12_untils 9 = .ok (.iload_n 3, 1) := by decide +kernel
theorem dX12_untils_10 : decode cX12_untils 10 = .ok (.ifCond .lt 32, 3) := by decide +kernel
theorem dX12_untils_13 : decode cX12_untils 13 = .ok (.iload_n 2, 1) := by decide +kernel
theorem dX12_untils_14 : decode cX12_untils 14 = .ok (.aload_n 0, 1) := by decide +kernel
theorem dX12_untils_15 : decode cX12_untils 15 = .ok (.getfield 20, 3) := by decide +kernel
theorem dX12_untils_18 : decode cX12_untils 18 = .ok (.iload_n 3, 1) := by decide +kernel
theorem dX12_untils_19 : decode cX12_untils 19 = .ok (.iaload, 1) := by decide +kernel
theorem dX12_untils_20 : decode cX12_untils 20 = .ok (.bipush 8, 2) := by decide +kernel
theorem dX12_untils_22 : decode cX12_untils 22 = .ok (.if_icmp .ne 7, 3) := by decide +kernel
theorem dX12_untils_25 : decode cX12_untils 25 = .ok (.iconst 1, 1) := by decide +kernel
theorem dX12_untils_26 : decode cX12_untils 26 = .ok (.goto 4, 3) := by decide +kernel
theorem dX12_untils_29 : decode cX12_untils 29 = .ok (.iconst 0, 1) := by decide +kernel
theorem dX12_untils_30 : decode cX12_untils 30 = .ok (.iadd, 1) := by decide +kernel
theorem dX12_untils_31 : decode cX12_untils 31 = .ok (.istore_n 2, 1) := by decide +kernel
theorem dX12_untils_32 : decode cX12_untils 32 = .ok (.aload_n 0, 1) := by decide +kernel
theorem dX12_untils_33 : decode cX12_untils 33 = .ok (.getfield 29, 3) := by decide +kernel
theorem dX12_untils_36 : decode cX12_untils 36 = .ok (.iload_n 3, 1) := by decide +kernel
theorem dX12_untils_37 : decode cX12_untils 37 = .ok (.iaload, 1) := by decide +kernel
theorem dX12_untils_38 : decode cX12_untils 38 = .ok (.istore_n 3, 1) := by decide +kernel
theorem dX12_untils_39 : decode cX12_untils 39 = .ok (.goto (-30), 3) := by decide +kernel
theorem dX12_untils_42 : decode cX12_untils 42 = .ok (.iload_n 2, 1) := by decide +kernel
theorem dX12_untils_43 : decode cX12_untils 43 = .ok (.ireturn, 1) := by decide +kernel
theorem dX12_capOf_0 : decode cX12_capOf 0 = .ok (.iconst (-1), 1) := by decide +kernel
theorem dX12_capOf_1 : decode cX12_capOf 1 = .ok (.istore_n 2, 1) := by decide +kernel
theorem dX12_capOf_2 : decode cX12_capOf 2 = .ok (.aload_n 0, 1) := by decide +kernel
theorem dX12_capOf_3 : decode cX12_capOf 3 = .ok (.getfield 29, 3) := by decide +kernel
theorem dX12_capOf_6 : decode cX12_capOf 6 = .ok (.iload_n 1, 1) := by decide +kernel
theorem dX12_capOf_7 : decode cX12_capOf 7 = .ok (.iaload, 1) := by decide +kernel
theorem dX12_capOf_8 : decode cX12_capOf 8 = .ok (.istore_n 3, 1) := by decide +kernel
theorem dX12_capOf_9 : decode cX12_capOf 9 = .ok (.iload_n 3, 1) := by decide +kernel
theorem dX12_capOf_10 : decode cX12_capOf 10 = .ok (.ifCond .lt 45, 3) := by decide +kernel
theorem dX12_capOf_13 : decode cX12_capOf 13 = .ok (.aload_n 0, 1) := by decide +kernel
theorem dX12_capOf_14 : decode cX12_capOf 14 = .ok (.getfield 20, 3) := by decide +kernel
theorem dX12_capOf_17 : decode cX12_capOf 17 = .ok (.iload_n 3, 1) := by decide +kernel
theorem dX12_capOf_18 : decode cX12_capOf 18 = .ok (.iaload, 1) := by decide +kernel
theorem dX12_capOf_19 : decode cX12_capOf 19 = .ok (.bipush 10, 2) := by decide +kernel
theorem dX12_capOf_21 : decode cX12_capOf 21 = .ok (.if_icmp .ne 24, 3) := by decide +kernel
theorem dX12_capOf_24 : decode cX12_capOf 24 = .ok (.iload_n 2, 1) := by decide +kernel
theorem dX12_capOf_25 : decode cX12_capOf 25 = .ok (.ifCond .lt 13, 3) := by decide +kernel
theorem dX12_capOf_28 : decode cX12_capOf 28 = .ok (.aload_n 0, 1) := by decide +kernel
theorem dX12_capOf_29 : decode cX12_capOf 29 = .ok (.getfield 23, 3) := by decide +kernel
theorem dX12_capOf_32 : decode cX12_capOf 32 = .ok (.iload_n 3, 1) := by decide +kernel
theorem dX12_capOf_33 : decode cX12_capOf 33 = .ok (.iaload, 1) := by decide +kernel
theorem dX12_capOf_34 : decode cX12_capOf 34 = .ok (.iload_n 2, 1) := by decide +kernel
theorem dX12_capOf_35 : decode cX12_capOf 35 = .ok (.if_icmp .ge 10, 3) := by decide +kernel
theorem dX12_capOf_38 : decode cX12_capOf 38 = .ok (.aload_n 0, 1) := by decide +kernel
theorem dX12_capOf_39 : decode cX12_capOf 39 = .ok (.getfield 23, 3) := by decide +kernel
theorem dX12_capOf_42 : decode cX12_capOf 42 = .ok (.iload_n 3, 1) := by decide +kernel
theorem dX12_capOf_43 : decode cX12_capOf 43 = .ok (.iaload, 1) := by decide +kernel
theorem dX12_capOf_44 : decode cX12_capOf 44 = .ok (.istore_n 2, 1) := by decide +kernel
theorem dX12_capOf_45 : decode cX12_capOf 45 = .ok (.aload_n 0, 1) := by decide +kernel
theorem dX12_capOf_46 : decode cX12_capOf 46 = .ok (.getfield 29, 3) := by decide +kernel
theorem dX12_capOf_49 : decode cX12_capOf 49 = .ok (.iload_n 3, 1) := by decide +kernel
theorem dX12_capOf_50 : decode cX12_capOf 50 = .ok (.iaload, 1) := by decide +kernel
theorem dX12_capOf_51 : decode cX12_capOf 51 = .ok (.istore_n 3, 1) := by decide +kernel
theorem dX12_capOf_52 : decode cX12_capOf 52 = .ok (.goto (-43), 3) := by decide +kernel
theorem dX12_capOf_55 : decode cX12_capOf 55 = .ok (.iload_n 2, 1) := by decide +kernel
theorem dX12_capOf_56 : decode cX12_capOf 56 = .ok (.ireturn, 1) := by decide +kernel
theorem dX12_chooser_0 : decode cX12_chooser 0 = .ok (.iconst 0, 1) := by decide +kernel
theorem dX12_chooser_1 : decode cX12_chooser 1 = .ok (.istore_n 2, 1) := by decide +kernel
theorem dX12_chooser_2 : decode cX12_chooser 2 = .ok (.aload_n 0, 1) := by decide +kernel
theorem dX12_chooser_3 : decode cX12_chooser 3 = .ok (.getfield 29, 3) := by decide +kernel
theorem dX12_chooser_6 : decode cX12_chooser 6 = .ok (.iload_n 1, 1) := by decide +kernel
theorem dX12_chooser_7 : decode cX12_chooser 7 = .ok (.iaload, 1) := by decide +kernel
theorem dX12_chooser_8 : decode cX12_chooser 8 = .ok (.istore_n 3, 1) := by decide +kernel
theorem dX12_chooser_9 : decode cX12_chooser 9 = .ok (.iload_n 3, 1) := by decide +kernel
theorem dX12_chooser_10 : decode cX12_chooser 10 = .ok (.ifCond .lt 31, 3) := by decide +kernel
theorem dX12_chooser_13 : decode cX12_chooser 13 = .ok (.iload_n 2, 1) := by decide +kernel
theorem dX12_chooser_14 : decode cX12_chooser 14 = .ok (.aload_n 0, 1) := by decide +kernel
theorem dX12_chooser_15 : decode cX12_chooser 15 = .ok (.getfield 20, 3) := by decide +kernel
theorem dX12_chooser_18 : decode cX12_chooser 18 = .ok (.iload_n 3, 1) := by decide +kernel
theorem dX12_chooser_19 : decode cX12_chooser 19 = .ok (.iaload, 1) := by decide +kernel
theorem dX12_chooser_20 : decode cX12_chooser 20 = .ok (.iconst 2, 1) := by decide +kernel
theorem dX12_chooser_21 : decode cX12_chooser 21 = .ok (.if_icmp .ne 7, 3) := by decide +kernel
theorem dX12_chooser_24 : decode cX12_chooser 24 = .ok (.iconst 1, 1) := by decide +kernel
theorem dX12_chooser_25 : decode cX12_chooser 25 = .ok (.goto 4, 3) := by decide +kernel
theorem dX12_chooser_28 : decode cX12_chooser 28 = .ok (.iconst 0, 1) := by decide +kernel
theorem dX12_chooser_29 : decode cX12_chooser 29 = .ok (.ixor, 1) := by decide +kernel
theorem dX12_chooser_30 : decode cX12_chooser 30 = .ok (.istore_n 2, 1) := by decide +kernel
theorem dX12_chooser_31 : decode cX12_chooser 31 = .ok (.aload_n 0, 1) := by decide +kernel
theorem dX12_chooser_32 : decode cX12_chooser 32 = .ok (.getfield 29, 3) := by decide +kernel
theorem dX12_chooser_35 : decode cX12_chooser 35 = .ok (.iload_n 3, 1) := by decide +kernel
theorem dX12_chooser_36 : decode cX12_chooser 36 = .ok (.iaload, 1) := by decide +kernel
theorem dX12_chooser_37 : decode cX12_chooser 37 = .ok (.istore_n 3, 1) := by decide +kernel
theorem dX12_chooser_38 : decode cX12_chooser 38 = .ok (.goto (-29), 3) := by decide +kernel
theorem dX12_chooser_41 : decode cX12_chooser 41 = .ok (.iload_n 2, 1) := by decide +kernel
theorem dX12_chooser_42 : decode cX12_chooser 42 = .ok (.ireturn, 1) := by decide +kernel
theorem dX12_held_0 : decode cX12_held 0 = .ok (.lload_n 0, 1) := by decide +kernel
theorem dX12_held_1 : decode cX12_held 1 = .ok (.lload_n 2, 1) := by decide +kernel
theorem dX12_held_2 : decode cX12_held 2 = .ok (.lneg, 1) := by decide +kernel
theorem dX12_held_3 : decode cX12_held 3 = .ok (.lcmp, 1) := by decide +kernel
theorem dX12_held_4 : decode cX12_held 4 = .ok (.ifCond .ge 8, 3) := by decide +kernel
theorem dX12_held_7 : decode cX12_held 7 = .ok (.lload_n 2, 1) := by decide +kernel
theorem dX12_held_8 : decode cX12_held 8 = .ok (.lneg, 1) := by decide +kernel
theorem dX12_held_9 : decode cX12_held 9 = .ok (.goto 14, 3) := by decide +kernel
theorem dX12_held_12 : decode cX12_held 12 = .ok (.lload_n 0, 1) := by decide +kernel
theorem dX12_held_13 : decode cX12_held 13 = .ok (.lload_n 2, 1) := by decide +kernel
theorem dX12_held_14 : decode cX12_held 14 = .ok (.lcmp, 1) := by decide +kernel
theorem dX12_held_15 : decode cX12_held 15 = .ok (.ifCond .le 7, 3) := by decide +kernel
theorem dX12_held_18 : decode cX12_held 18 = .ok (.lload_n 2, 1) := by decide +kernel
theorem dX12_held_19 : decode cX12_held 19 = .ok (.goto 4, 3) := by decide +kernel
theorem dX12_held_22 : decode cX12_held 22 = .ok (.lload_n 0, 1) := by decide +kernel
theorem dX12_held_23 : decode cX12_held 23 = .ok (.lreturn, 1) := by decide +kernel
theorem dX12_paysOf_0 : decode cX12_paysOf 0 = .ok (.aload_n 0, 1) := by decide +kernel
theorem dX12_paysOf_1 : decode cX12_paysOf 1 = .ok (.iload_n 1, 1) := by decide +kernel
theorem dX12_paysOf_2 : decode cX12_paysOf 2 = .ok (.invokevirtual 351, 3) := by decide +kernel
theorem dX12_paysOf_5 : decode cX12_paysOf 5 = .ok (.istore 4, 2) := by decide +kernel
theorem dX12_paysOf_7 : decode cX12_paysOf 7 = .ok (.iload 4, 2) := by decide +kernel
theorem dX12_paysOf_9 : decode cX12_paysOf 9 = .ok (.ifCond .ge 7, 3) := by decide +kernel
theorem dX12_paysOf_12 : decode cX12_paysOf 12 = .ok (.lload_n 2, 1) := by decide +kernel
theorem dX12_paysOf_13 : decode cX12_paysOf 13 = .ok (.goto 10, 3) := by decide +kernel
theorem dX12_paysOf_16 : decode cX12_paysOf 16 = .ok (.lload_n 2, 1) := by decide +kernel
theorem dX12_paysOf_17 : decode cX12_paysOf 17 = .ok (.iload 4, 2) := by decide +kernel
theorem dX12_paysOf_19 : decode cX12_paysOf 19 = .ok (.i2l, 1) := by decide +kernel
theorem dX12_paysOf_20 : decode cX12_paysOf 20 = .ok (.invokestatic 355, 3) := by decide +kernel
theorem dX12_paysOf_23 : decode cX12_paysOf 23 = .ok (.lreturn, 1) := by decide +kernel
theorem dX12_factorBehind_0 : decode cX12_factorBehind 0 = .ok (.aload_n 0, 1) := by decide +kernel
theorem dX12_factorBehind_1 : decode cX12_factorBehind 1 = .ok (.getfield 20, 3) := by decide +kernel
theorem dX12_factorBehind_4 : decode cX12_factorBehind 4 = .ok (.iload_n 1, 1) := by decide +kernel
theorem dX12_factorBehind_5 : decode cX12_factorBehind 5 = .ok (.iaload, 1) := by decide +kernel
theorem dX12_factorBehind_6 : decode cX12_factorBehind 6 = .ok (.iconst 2, 1) := by decide +kernel
theorem dX12_factorBehind_7 : decode cX12_factorBehind 7 = .ok (.if_icmp .ne 6, 3) := by decide +kernel
theorem dX12_factorBehind_10 : decode cX12_factorBehind 10 = .ok (.lload_n 2, 1) := by decide +kernel
theorem dX12_factorBehind_11 : decode cX12_factorBehind 11 = .ok (.lneg, 1) := by decide +kernel
theorem dX12_factorBehind_12 : decode cX12_factorBehind 12 = .ok (.lreturn, 1) := by decide +kernel
theorem dX12_factorBehind_13 : decode cX12_factorBehind 13 = .ok (.aload_n 0, 1) := by decide +kernel
theorem dX12_factorBehind_14 : decode cX12_factorBehind 14 = .ok (.getfield 20, 3) := by decide +kernel
theorem dX12_factorBehind_17 : decode cX12_factorBehind 17 = .ok (.iload_n 1, 1) := by decide +kernel
theorem dX12_factorBehind_18 : decode cX12_factorBehind 18 = .ok (.iaload, 1) := by decide +kernel
theorem dX12_factorBehind_19 : decode cX12_factorBehind 19 = .ok (.bipush 9, 2) := by decide +kernel
theorem dX12_factorBehind_21 : decode cX12_factorBehind 21 = .ok (.if_icmp .ne 37, 3) := by decide +kernel
theorem dX12_factorBehind_24 : decode cX12_factorBehind 24 = .ok (.lload_n 2, 1) := by decide +kernel
theorem dX12_factorBehind_25 : decode cX12_factorBehind 25 = .ok (.aload_n 0, 1) := by decide +kernel
theorem dX12_factorBehind_26 : decode cX12_factorBehind 26 = .ok (.bipush 40, 2) := by decide +kernel
theorem dX12_factorBehind_28 : decode cX12_factorBehind 28 = .ok (.iload_n 1, 1) := by decide +kernel
theorem dX12_factorBehind_29 : decode cX12_factorBehind 29 = .ok (.bipush 40, 2) := by decide +kernel
theorem dX12_factorBehind_31 : decode cX12_factorBehind 31 = .ok (.idiv, 1) := by decide +kernel
theorem dX12_factorBehind_32 : decode cX12_factorBehind 32 = .ok (.imul, 1) := by decide +kernel
theorem dX12_factorBehind_33 : decode cX12_factorBehind 33 = .ok (.aload_n 0, 1) := by decide +kernel
theorem dX12_factorBehind_34 : decode cX12_factorBehind 34 = .ok (.getfield 38, 3) := by decide +kernel
theorem dX12_factorBehind_37 : decode cX12_factorBehind 37 = .ok (.iload_n 1, 1) := by decide +kernel
theorem dX12_factorBehind_38 : decode cX12_factorBehind 38 = .ok (.iaload, 1) := by decide +kernel
theorem dX12_factorBehind_39 : decode cX12_factorBehind 39 = .ok (.aload_n 0, 1) := by decide +kernel
theorem dX12_factorBehind_40 : decode cX12_factorBehind 40 = .ok (.getfield 41, 3) := by decide +kernel
theorem dX12_factorBehind_43 : decode cX12_factorBehind 43 = .ok (.iload_n 1, 1) := by decide +kernel
theorem dX12_factorBehind_44 : decode cX12_factorBehind 44 = .ok (.iaload, 1) := by decide +kernel
theorem dX12_factorBehind_45 : decode cX12_factorBehind 45 = .ok (.invokevirtual 344, 3) := by decide +kernel
theorem dX12_factorBehind_48 : decode cX12_factorBehind 48 = .ok (.lmul, 1) := by decide +kernel
theorem dX12_factorBehind_49 : decode cX12_factorBehind 49 = .ok (.ldc2_w 359, 3) := by decide +kernel
theorem dX12_factorBehind_52 : decode cX12_factorBehind 52 = .ok (.invokestatic 355, 3) := by decide +kernel
theorem dX12_factorBehind_55 : decode cX12_factorBehind 55 = .ok (.goto 4, 3) := by decide +kernel
theorem dX12_factorBehind_58 : decode cX12_factorBehind 58 = .ok (.lload_n 2, 1) := by decide +kernel
theorem dX12_factorBehind_59 : decode cX12_factorBehind 59 = .ok (.lreturn, 1) := by decide +kernel
theorem dX12_leadsTo_0 : decode cX12_leadsTo 0 = .ok (.aload_n 0, 1) := by decide +kernel
theorem dX12_leadsTo_1 : decode cX12_leadsTo 1 = .ok (.getfield 20, 3) := by decide +kernel
theorem dX12_leadsTo_4 : decode cX12_leadsTo 4 = .ok (.iload_n 1, 1) := by decide +kernel
theorem dX12_leadsTo_5 : decode cX12_leadsTo 5 = .ok (.iaload, 1) := by decide +kernel
theorem dX12_leadsTo_6 : decode cX12_leadsTo 6 = .ok (.tableswitch 107 2 10 #[50, 107, 107, 57, 88, 107, 50, 50, 50], 50) := by decide +kernel
theorem dX12_leadsTo_56 : decode cX12_leadsTo 56 = .ok (.aload_n 0, 1) := by decide +kernel
theorem dX12_leadsTo_57 : decode cX12_leadsTo 57 = .ok (.getfield 32, 3) := by decide +kernel
theorem dX12_leadsTo_60 : decode cX12_leadsTo 60 = .ok (.iload_n 1, 1) := by decide +kernel
theorem dX12_leadsTo_61 : decode cX12_leadsTo 61 = .ok (.iaload, 1) := by decide +kernel
theorem dX12_leadsTo_62 : decode cX12_leadsTo 62 = .ok (.ireturn, 1) := by decide +kernel
theorem dX12_leadsTo_63 : decode cX12_leadsTo 63 = .ok (.aload_n 0, 1) := by decide +kernel
theorem dX12_leadsTo_64 : decode cX12_leadsTo 64 = .ok (.getfield 340, 3) := by decide +kernel
theorem dX12_leadsTo_67 : decode cX12_leadsTo 67 = .ok (.aload_n 0, 1) := by decide +kernel
theorem dX12_leadsTo_68 : decode cX12_leadsTo 68 = .ok (.getfield 23, 3) := by decide +kernel
theorem dX12_leadsTo_71 : decode cX12_leadsTo 71 = .ok (.iload_n 1, 1) := by decide +kernel
theorem dX12_leadsTo_72 : decode cX12_leadsTo 72 = .ok (.iaload, 1) := by decide +kernel
theorem dX12_leadsTo_73 : decode cX12_leadsTo 73 = .ok (.i2l, 1) := by decide +kernel
theorem dX12_leadsTo_74 : decode cX12_leadsTo 74 = .ok (.lcmp, 1) := by decide +kernel
theorem dX12_leadsTo_75 : decode cX12_leadsTo 75 = .ok (.ifCond .ge 12, 3) := by decide +kernel
theorem dX12_leadsTo_78 : decode cX12_leadsTo 78 = .ok (.aload_n 0, 1) := by decide +kernel
theorem dX12_leadsTo_79 : decode cX12_leadsTo 79 = .ok (.getfield 32, 3) := by decide +kernel
theorem dX12_leadsTo_82 : decode cX12_leadsTo 82 = .ok (.iload_n 1, 1) := by decide +kernel
theorem dX12_leadsTo_83 : decode cX12_leadsTo 83 = .ok (.iaload, 1) := by decide +kernel
theorem dX12_leadsTo_84 : decode cX12_leadsTo 84 = .ok (.goto 9, 3) := by decide +kernel
theorem dX12_leadsTo_87 : decode cX12_leadsTo 87 = .ok (.aload_n 0, 1) := by decide +kernel
theorem dX12_leadsTo_88 : decode cX12_leadsTo 88 = .ok (.getfield 35, 3) := by decide +kernel
theorem dX12_leadsTo_91 : decode cX12_leadsTo 91 = .ok (.iload_n 1, 1) := by decide +kernel
theorem dX12_leadsTo_92 : decode cX12_leadsTo 92 = .ok (.iaload, 1) := by decide +kernel
theorem dX12_leadsTo_93 : decode cX12_leadsTo 93 = .ok (.ireturn, 1) := by decide +kernel
theorem dX12_leadsTo_94 : decode cX12_leadsTo 94 = .ok (.aload_n 0, 1) := by decide +kernel
theorem dX12_leadsTo_95 : decode cX12_leadsTo 95 = .ok (.iload_n 1, 1) := by decide +kernel
theorem dX12_leadsTo_96 : decode cX12_leadsTo 96 = .ok (.invokevirtual 348, 3) := by decide +kernel
theorem dX12_leadsTo_99 : decode cX12_leadsTo 99 = .ok (.ifCond .eq 12, 3) := by decide +kernel
theorem dX12_leadsTo_102 : decode cX12_leadsTo 102 = .ok (.aload_n 0, 1) := by decide +kernel
theorem dX12_leadsTo_103 : decode cX12_leadsTo 103 = .ok (.getfield 32, 3) := by decide +kernel
theorem dX12_leadsTo_106 : decode cX12_leadsTo 106 = .ok (.iload_n 1, 1) := by decide +kernel
theorem dX12_leadsTo_107 : decode cX12_leadsTo 107 = .ok (.iaload, 1) := by decide +kernel
theorem dX12_leadsTo_108 : decode cX12_leadsTo 108 = .ok (.goto 4, 3) := by decide +kernel
theorem dX12_leadsTo_111 : decode cX12_leadsTo 111 = .ok (.iconst (-1), 1) := by decide +kernel
theorem dX12_leadsTo_112 : decode cX12_leadsTo 112 = .ok (.ireturn, 1) := by decide +kernel
theorem dX12_leadsTo_113 : decode cX12_leadsTo 113 = .ok (.iconst (-1), 1) := by decide +kernel
theorem dX12_leadsTo_114 : decode cX12_leadsTo 114 = .ok (.ireturn, 1) := by decide +kernel
theorem dX12_comes_0 : decode cX12_comes 0 = .ok (.aload_n 0, 1) := by decide +kernel
theorem dX12_comes_1 : decode cX12_comes 1 = .ok (.getfield 130, 3) := by decide +kernel
theorem dX12_comes_4 : decode cX12_comes 4 = .ok (.aload_n 0, 1) := by decide +kernel
theorem dX12_comes_5 : decode cX12_comes 5 = .ok (.getfield 361, 3) := by decide +kernel
theorem dX12_comes_8 : decode cX12_comes 8 = .ok (.iload_n 1, 1) := by decide +kernel
theorem dX12_comes_9 : decode cX12_comes 9 = .ok (.iastore, 1) := by decide +kernel
theorem dX12_comes_10 : decode cX12_comes 10 = .ok (.aload_n 0, 1) := by decide +kernel
theorem dX12_comes_11 : decode cX12_comes 11 = .ok (.getfield 133, 3) := by decide +kernel
theorem dX12_comes_14 : decode cX12_comes 14 = .ok (.aload_n 0, 1) := by decide +kernel
theorem dX12_comes_15 : decode cX12_comes 15 = .ok (.getfield 361, 3) := by decide +kernel
theorem dX12_comes_18 : decode cX12_comes 18 = .ok (.lload_n 2, 1) := by decide +kernel
theorem dX12_comes_19 : decode cX12_comes 19 = .ok (.lastore, 1) := by decide +kernel
theorem dX12_comes_20 : decode cX12_comes 20 = .ok (.aload_n 0, 1) := by decide +kernel
theorem dX12_comes_21 : decode cX12_comes 21 = .ok (.dup, 1) := by decide +kernel
theorem dX12_comes_22 : decode cX12_comes 22 = .ok (.getfield 361, 3) := by decide +kernel
theorem dX12_comes_25 : decode cX12_comes 25 = .ok (.iconst 1, 1) := by decide +kernel
theorem dX12_comes_26 : decode cX12_comes 26 = .ok (.iadd, 1) := by decide +kernel
theorem dX12_comes_27 : decode cX12_comes 27 = .ok (.putfield 361, 3) := by decide +kernel
theorem dX12_comes_30 : decode cX12_comes 30 = .ok (.return_, 1) := by decide +kernel
theorem dX12_pays_0 : decode cX12_pays 0 = .ok (.lload_n 3, 1) := by decide +kernel
theorem dX12_pays_1 : decode cX12_pays 1 = .ok (.lconst 0, 1) := by decide +kernel
theorem dX12_pays_2 : decode cX12_pays 2 = .ok (.lcmp, 1) := by decide +kernel
theorem dX12_pays_3 : decode cX12_pays 3 = .ok (.ifCond .ne 4, 3) := by decide +kernel
theorem dX12_pays_6 : decode cX12_pays 6 = .ok (.return_, 1) := by decide +kernel
theorem dX12_pays_7 : decode cX12_pays 7 = .ok (.aload_n 0, 1) := by decide +kernel
theorem dX12_pays_8 : decode cX12_pays 8 = .ok (.getfield 364, 3) := by decide +kernel
theorem dX12_pays_11 : decode cX12_pays 11 = .ok (.sipush 2000, 3) := by decide +kernel
theorem dX12_pays_14 : decode cX12_pays 14 = .ok (.if_icmp .ne 14, 3) := by decide +kernel
theorem dX12_pays_17 : decode cX12_pays 17 = .ok (.aload_n 0, 1) := by decide +kernel
theorem dX12_pays_18 : decode cX12_pays 18 = .ok (.dup, 1) := by decide +kernel
theorem dX12_pays_19 : decode cX12_pays 19 = .ok (.getfield 367, 3) := by decide +kernel
theorem dX12_pays_22 : decode cX12_pays 22 = .ok (.iconst 1, 1) := by decide +kernel
theorem dX12_pays_23 : decode cX12_pays 23 = .ok (.iadd, 1) := by decide +kernel
theorem dX12_pays_24 : decode cX12_pays 24 = .ok (.putfield 367, 3) := by decide +kernel
theorem dX12_pays_27 : decode cX12_pays 27 = .ok (.return_, 1) := by decide +kernel
theorem dX12_pays_28 : decode cX12_pays 28 = .ok (.aload_n 0, 1) := by decide +kernel
theorem dX12_pays_29 : decode cX12_pays 29 = .ok (.getfield 118, 3) := by decide +kernel
theorem dX12_pays_32 : decode cX12_pays 32 = .ok (.aload_n 0, 1) := by decide +kernel
theorem dX12_pays_33 : decode cX12_pays 33 = .ok (.getfield 364, 3) := by decide +kernel
theorem dX12_pays_36 : decode cX12_pays 36 = .ok (.iload_n 1, 1) := by decide +kernel
theorem dX12_pays_37 : decode cX12_pays 37 = .ok (.iastore, 1) := by decide +kernel
theorem dX12_pays_38 : decode cX12_pays 38 = .ok (.aload_n 0, 1) := by decide +kernel
theorem dX12_pays_39 : decode cX12_pays 39 = .ok (.getfield 121, 3) := by decide +kernel
theorem dX12_pays_42 : decode cX12_pays 42 = .ok (.aload_n 0, 1) := by decide +kernel
theorem dX12_pays_43 : decode cX12_pays 43 = .ok (.getfield 364, 3) := by decide +kernel
theorem dX12_pays_46 : decode cX12_pays 46 = .ok (.aload_n 0, 1) := by decide +kernel
theorem dX12_pays_47 : decode cX12_pays 47 = .ok (.getfield 249, 3) := by decide +kernel
theorem dX12_pays_50 : decode cX12_pays 50 = .ok (.iastore, 1) := by decide +kernel
theorem dX12_pays_51 : decode cX12_pays 51 = .ok (.aload_n 0, 1) := by decide +kernel
theorem dX12_pays_52 : decode cX12_pays 52 = .ok (.getfield 124, 3) := by decide +kernel
theorem dX12_pays_55 : decode cX12_pays 55 = .ok (.aload_n 0, 1) := by decide +kernel
theorem dX12_pays_56 : decode cX12_pays 56 = .ok (.getfield 364, 3) := by decide +kernel
theorem dX12_pays_59 : decode cX12_pays 59 = .ok (.lload_n 3, 1) := by decide +kernel
theorem dX12_pays_60 : decode cX12_pays 60 = .ok (.l2i, 1) := by decide +kernel
theorem dX12_pays_61 : decode cX12_pays 61 = .ok (.iastore, 1) := by decide +kernel
theorem dX12_pays_62 : decode cX12_pays 62 = .ok (.aload_n 0, 1) := by decide +kernel
theorem dX12_pays_63 : decode cX12_pays 63 = .ok (.getfield 127, 3) := by decide +kernel
theorem dX12_pays_66 : decode cX12_pays 66 = .ok (.aload_n 0, 1) := by decide +kernel
theorem dX12_pays_67 : decode cX12_pays 67 = .ok (.getfield 364, 3) := by decide +kernel
theorem dX12_pays_70 : decode cX12_pays 70 = .ok (.iload_n 2, 1) := by decide +kernel
theorem dX12_pays_71 : decode cX12_pays 71 = .ok (.bipush 40, 2) := by decide +kernel
theorem dX12_pays_73 : decode cX12_pays 73 = .ok (.irem, 1) := by decide +kernel
theorem dX12_pays_74 : decode cX12_pays 74 = .ok (.iastore, 1) := by decide +kernel
theorem dX12_pays_75 : decode cX12_pays 75 = .ok (.aload_n 0, 1) := by decide +kernel
theorem dX12_pays_76 : decode cX12_pays 76 = .ok (.dup, 1) := by decide +kernel
theorem dX12_pays_77 : decode cX12_pays 77 = .ok (.getfield 364, 3) := by decide +kernel
theorem dX12_pays_80 : decode cX12_pays 80 = .ok (.iconst 1, 1) := by decide +kernel
theorem dX12_pays_81 : decode cX12_pays 81 = .ok (.iadd, 1) := by decide +kernel
theorem dX12_pays_82 : decode cX12_pays 82 = .ok (.putfield 364, 3) := by decide +kernel
theorem dX12_pays_85 : decode cX12_pays 85 = .ok (.aload_n 0, 1) := by decide +kernel
theorem dX12_pays_86 : decode cX12_pays 86 = .ok (.getfield 106, 3) := by decide +kernel
theorem dX12_pays_89 : decode cX12_pays 89 = .ok (.iload_n 1, 1) := by decide +kernel
theorem dX12_pays_90 : decode cX12_pays 90 = .ok (.dup2, 1) := by decide +kernel
theorem dX12_pays_91 : decode cX12_pays 91 = .ok (.laload, 1) := by decide +kernel
theorem dX12_pays_92 : decode cX12_pays 92 = .ok (.lload_n 3, 1) := by decide +kernel
theorem dX12_pays_93 : decode cX12_pays 93 = .ok (.ladd, 1) := by decide +kernel
theorem dX12_pays_94 : decode cX12_pays 94 = .ok (.lastore, 1) := by decide +kernel
theorem dX12_pays_95 : decode cX12_pays 95 = .ok (.return_, 1) := by decide +kernel
theorem dX12_waits_0 : decode cX12_waits 0 = .ok (.aload_n 0, 1) := by decide +kernel
theorem dX12_waits_1 : decode cX12_waits 1 = .ok (.getfield 109, 3) := by decide +kernel
theorem dX12_waits_4 : decode cX12_waits 4 = .ok (.iload_n 1, 1) := by decide +kernel
theorem dX12_waits_5 : decode cX12_waits 5 = .ok (.iaload, 1) := by decide +kernel
theorem dX12_waits_6 : decode cX12_waits 6 = .ok (.bipush 40, 2) := by decide +kernel
theorem dX12_waits_8 : decode cX12_waits 8 = .ok (.if_icmp .ne 14, 3) := by decide +kernel
theorem dX12_waits_11 : decode cX12_waits 11 = .ok (.aload_n 0, 1) := by decide +kernel
theorem dX12_waits_12 : decode cX12_waits 12 = .ok (.dup, 1) := by decide +kernel
theorem dX12_waits_13 : decode cX12_waits 13 = .ok (.getfield 367, 3) := by decide +kernel
theorem dX12_waits_16 : decode cX12_waits 16 = .ok (.iconst 1, 1) := by decide +kernel
theorem dX12_waits_17 : decode cX12_waits 17 = .ok (.iadd, 1) := by decide +kernel
theorem dX12_waits_18 : decode cX12_waits 18 = .ok (.putfield 367, 3) := by decide +kernel
theorem dX12_waits_21 : decode cX12_waits 21 = .ok (.return_, 1) := by decide +kernel
theorem dX12_waits_22 : decode cX12_waits 22 = .ok (.bipush 40, 2) := by decide +kernel
theorem dX12_waits_24 : decode cX12_waits 24 = .ok (.iload_n 1, 1) := by decide +kernel
theorem dX12_waits_25 : decode cX12_waits 25 = .ok (.imul, 1) := by decide +kernel
theorem dX12_waits_26 : decode cX12_waits 26 = .ok (.aload_n 0, 1) := by decide +kernel
theorem dX12_waits_27 : decode cX12_waits 27 = .ok (.getfield 109, 3) := by decide +kernel
theorem dX12_waits_30 : decode cX12_waits 30 = .ok (.iload_n 1, 1) := by decide +kernel
theorem dX12_waits_31 : decode cX12_waits 31 = .ok (.iaload, 1) := by decide +kernel
theorem dX12_waits_32 : decode cX12_waits 32 = .ok (.iadd, 1) := by decide +kernel
theorem dX12_waits_33 : decode cX12_waits 33 = .ok (.istore 5, 2) := by decide +kernel
theorem dX12_waits_35 : decode cX12_waits 35 = .ok (.aload_n 0, 1) := by decide +kernel
theorem dX12_waits_36 : decode cX12_waits 36 = .ok (.getfield 112, 3) := by decide +kernel
theorem dX12_waits_39 : decode cX12_waits 39 = .ok (.iload 5, 2) := by decide +kernel
theorem dX12_waits_41 : decode cX12_waits 41 = .ok (.iload_n 2, 1) := by decide +kernel
theorem dX12_waits_42 : decode cX12_waits 42 = .ok (.iastore, 1) := by decide +kernel
theorem dX12_waits_43 : decode cX12_waits 43 = .ok (.aload_n 0, 1) := by decide +kernel
theorem dX12_waits_44 : decode cX12_waits 44 = .ok (.getfield 115, 3) := by decide +kernel
theorem dX12_waits_47 : decode cX12_waits 47 = .ok (.iload 5, 2) := by decide +kernel
theorem dX12_waits_49 : decode cX12_waits 49 = .ok (.lload_n 3, 1) := by decide +kernel
theorem dX12_waits_50 : decode cX12_waits 50 = .ok (.lastore, 1) := by decide +kernel
theorem dX12_waits_51 : decode cX12_waits 51 = .ok (.aload_n 0, 1) := by decide +kernel
theorem dX12_waits_52 : decode cX12_waits 52 = .ok (.getfield 109, 3) := by decide +kernel
theorem dX12_waits_55 : decode cX12_waits 55 = .ok (.iload_n 1, 1) := by decide +kernel
theorem dX12_waits_56 : decode cX12_waits 56 = .ok (.dup2, 1) := by decide +kernel
theorem dX12_waits_57 : decode cX12_waits 57 = .ok (.iaload, 1) := by decide +kernel
theorem dX12_waits_58 : decode cX12_waits 58 = .ok (.iconst 1, 1) := by decide +kernel
theorem dX12_waits_59 : decode cX12_waits 59 = .ok (.iadd, 1) := by decide +kernel
theorem dX12_waits_60 : decode cX12_waits 60 = .ok (.iastore, 1) := by decide +kernel
theorem dX12_waits_61 : decode cX12_waits 61 = .ok (.return_, 1) := by decide +kernel
theorem dX12_acquires_0 : decode cX12_acquires 0 = .ok (.aload_n 0, 1) := by decide +kernel
theorem dX12_acquires_1 : decode cX12_acquires 1 = .ok (.iconst 0, 1) := by decide +kernel
theorem dX12_acquires_2 : decode cX12_acquires 2 = .ok (.putfield 361, 3) := by decide +kernel
theorem dX12_acquires_5 : decode cX12_acquires 5 = .ok (.aload_n 0, 1) := by decide +kernel
theorem dX12_acquires_6 : decode cX12_acquires 6 = .ok (.iload_n 2, 1) := by decide +kernel
theorem dX12_acquires_7 : decode cX12_acquires 7 = .ok (.lload_n 3, 1) := by decide +kernel
theorem dX12_acquires_8 : decode cX12_acquires 8 = .ok (.invokevirtual 370, 3) := by decide +kernel
theorem dX12_acquires_11 : decode cX12_acquires 11 = .ok (.aload_n 0, 1) := by decide +kernel
theorem dX12_acquires_12 : decode cX12_acquires 12 = .ok (.getfield 361, 3) := by decide +kernel
theorem dX12_acquires_15 : decode cX12_acquires 15 = .ok (.ifCond .le 168, 3) := by decide +kernel
theorem dX12_acquires_18 : decode cX12_acquires 18 = .ok (.aload_n 0, 1) := by decide +kernel
theorem dX12_acquires_19 : decode cX12_acquires 19 = .ok (.dup, 1) := by decide +kernel
theorem dX12_acquires_20 : decode cX12_acquires 20 = .ok (.getfield 361, 3) := by decide +kernel
theorem dX12_acquires_23 : decode cX12_acquires 23 = .ok (.iconst 1, 1) := by decide +kernel
theorem dX12_acquires_24 : decode cX12_acquires 24 = .ok (.isub, 1) := by decide +kernel
theorem dX12_acquires_25 : decode cX12_acquires 25 = .ok (.putfield 361, 3) := by decide +kernel
theorem dX12_acquires_28 : decode cX12_acquires 28 = .ok (.aload_n 0, 1) := by decide +kernel
theorem dX12_acquires_29 : decode cX12_acquires 29 = .ok (.getfield 130, 3) := by decide +kernel
theorem dX12_acquires_32 : decode cX12_acquires 32 = .ok (.aload_n 0, 1) := by decide +kernel
theorem dX12_acquires_33 : decode cX12_acquires 33 = .ok (.getfield 361, 3) := by decide +kernel
theorem dX12_acquires_36 : decode cX12_acquires 36 = .ok (.iaload, 1) := by decide +kernel
theorem dX12_acquires_37 : decode cX12_acquires 37 = .ok (.istore 5, 2) := by decide +kernel
theorem dX12_acquires_39 : decode cX12_acquires 39 = .ok (.aload_n 0, 1) := by decide +kernel
theorem dX12_acquires_40 : decode cX12_acquires 40 = .ok (.getfield 133, 3) := by decide +kernel
theorem dX12_acquires_43 : decode cX12_acquires 43 = .ok (.aload_n 0, 1) := by decide +kernel
theorem dX12_acquires_44 : decode cX12_acquires 44 = .ok (.getfield 361, 3) := by decide +kernel
theorem dX12_acquires_47 : decode cX12_acquires 47 = .ok (.laload, 1) := by decide +kernel
theorem dX12_acquires_48 : decode cX12_acquires 48 = .ok (.lstore 6, 2) := by decide +kernel
theorem dX12_acquires_50 : decode cX12_acquires 50 = .ok (.aload_n 0, 1) := by decide +kernel
theorem dX12_acquires_51 : decode cX12_acquires 51 = .ok (.iload 5, 2) := by decide +kernel
theorem dX12_acquires_53 : decode cX12_acquires 53 = .ok (.invokevirtual 374, 3) := by decide +kernel
theorem dX12_acquires_56 : decode cX12_acquires 56 = .ok (.ifCond .ne (-45), 3) := by decide +kernel
theorem dX12_acquires_59 : decode cX12_acquires 59 = .ok (.aload_n 0, 1) := by decide +kernel
theorem dX12_acquires_60 : decode cX12_acquires 60 = .ok (.getfield 20, 3) := by decide +kernel
theorem dX12_acquires_63 : decode cX12_acquires 63 = .ok (.iload 5, 2) := by decide +kernel
theorem dX12_acquires_65 : decode cX12_acquires 65 = .ok (.iaload, 1) := by decide +kernel
theorem dX12_acquires_66 : decode cX12_acquires 66 = .ok (.ifCond .ne 6, 3) := by decide +kernel
theorem dX12_acquires_69 : decode cX12_acquires 69 = .ok (.goto (-58), 3) := by decide +kernel
theorem dX12_acquires_72 : decode cX12_acquires 72 = .ok (.aload_n 0, 1) := by decide +kernel
theorem dX12_acquires_73 : decode cX12_acquires 73 = .ok (.iload 5, 2) := by decide +kernel
theorem dX12_acquires_75 : decode cX12_acquires 75 = .ok (.invokevirtual 377, 3) := by decide +kernel
theorem dX12_acquires_78 : decode cX12_acquires 78 = .ok (.istore 8, 2) := by decide +kernel
theorem dX12_acquires_80 : decode cX12_acquires 80 = .ok (.iload 8, 2) := by decide +kernel
theorem dX12_acquires_82 : decode cX12_acquires 82 = .ok (.ifCond .lt 20, 3) := by decide +kernel
theorem dX12_acquires_85 : decode cX12_acquires 85 = .ok (.aload_n 0, 1) := by decide +kernel
theorem dX12_acquires_86 : decode cX12_acquires 86 = .ok (.iload 8, 2) := by decide +kernel
theorem dX12_acquires_88 : decode cX12_acquires 88 = .ok (.aload_n 0, 1) := by decide +kernel
theorem dX12_acquires_89 : decode cX12_acquires 89 = .ok (.iload 5, 2) := by decide +kernel
theorem dX12_acquires_91 : decode cX12_acquires 91 = .ok (.lload 6, 2) := by decide +kernel
theorem dX12_acquires_93 : decode cX12_acquires 93 = .ok (.invokevirtual 380, 3) := by decide +kernel
theorem dX12_acquires_96 : decode cX12_acquires 96 = .ok (.invokevirtual 370, 3) := by decide +kernel
theorem dX12_acquires_99 : decode cX12_acquires 99 = .ok (.goto 81, 3) := by decide +kernel
theorem dX12_acquires_102 : decode cX12_acquires 102 = .ok (.aload_n 0, 1) := by decide +kernel
theorem dX12_acquires_103 : decode cX12_acquires 103 = .ok (.getfield 20, 3) := by decide +kernel
theorem dX12_acquires_106 : decode cX12_acquires 106 = .ok (.iload 5, 2) := by decide +kernel
theorem dX12_acquires_108 : decode cX12_acquires 108 = .ok (.iaload, 1) := by decide +kernel
theorem dX12_acquires_109 : decode cX12_acquires 109 = .ok (.iconst 1, 1) := by decide +kernel
theorem dX12_acquires_110 : decode cX12_acquires 110 = .ok (.if_icmp .ne 21, 3) := by decide +kernel
theorem dX12_acquires_113 : decode cX12_acquires 113 = .ok (.aload_n 0, 1) := by decide +kernel
theorem dX12_acquires_114 : decode cX12_acquires 114 = .ok (.iload_n 1, 1) := by decide +kernel
theorem dX12_acquires_115 : decode cX12_acquires 115 = .ok (.iload 5, 2) := by decide +kernel
theorem dX12_acquires_117 : decode cX12_acquires 117 = .ok (.aload_n 0, 1) := by decide +kernel
theorem dX12_acquires_118 : decode cX12_acquires 118 = .ok (.iload 5, 2) := by decide +kernel
theorem dX12_acquires_120 : decode cX12_acquires 120 = .ok (.lload 6, 2) := by decide +kernel
theorem dX12_acquires_122 : decode cX12_acquires 122 = .ok (.invokevirtual 384, 3) := by decide +kernel
theorem dX12_acquires_125 : decode cX12_acquires 125 = .ok (.invokevirtual 387, 3) := by decide +kernel
theorem dX12_acquires_128 : decode cX12_acquires 128 = .ok (.goto 52, 3) := by decide +kernel
theorem dX12_acquires_131 : decode cX12_acquires 131 = .ok (.aload_n 0, 1) := by decide +kernel
theorem dX12_acquires_132 : decode cX12_acquires 132 = .ok (.getfield 20, 3) := by decide +kernel
theorem dX12_acquires_135 : decode cX12_acquires 135 = .ok (.iload 5, 2) := by decide +kernel
theorem dX12_acquires_137 : decode cX12_acquires 137 = .ok (.iaload, 1) := by decide +kernel
theorem dX12_acquires_138 : decode cX12_acquires 138 = .ok (.iconst 3, 1) := by decide +kernel
theorem dX12_acquires_139 : decode cX12_acquires 139 = .ok (.if_icmp .ne 32, 3) := by decide +kernel
theorem dX12_acquires_142 : decode cX12_acquires 142 = .ok (.aload_n 0, 1) := by decide +kernel
theorem dX12_acquires_143 : decode cX12_acquires 143 = .ok (.aload_n 0, 1) := by decide +kernel
theorem dX12_acquires_144 : decode cX12_acquires 144 = .ok (.getfield 35, 3) := by decide +kernel
theorem dX12_acquires_147 : decode cX12_acquires 147 = .ok (.iload 5, 2) := by decide +kernel
theorem dX12_acquires_149 : decode cX12_acquires 149 = .ok (.iaload, 1) := by decide +kernel
theorem dX12_acquires_150 : decode cX12_acquires 150 = .ok (.lload 6, 2) := by decide +kernel
theorem dX12_acquires_152 : decode cX12_acquires 152 = .ok (.invokevirtual 370, 3) := by decide +kernel
theorem dX12_acquires_155 : decode cX12_acquires 155 = .ok (.aload_n 0, 1) := by decide +kernel
theorem dX12_acquires_156 : decode cX12_acquires 156 = .ok (.aload_n 0, 1) := by decide +kernel
theorem dX12_acquires_157 : decode cX12_acquires 157 = .ok (.getfield 32, 3) := by decide +kernel
theorem dX12_acquires_160 : decode cX12_acquires 160 = .ok (.iload 5, 2) := by decide +kernel
theorem dX12_acquires_162 : decode cX12_acquires 162 = .ok (.iaload, 1) := by decide +kernel
theorem dX12_acquires_163 : decode cX12_acquires 163 = .ok (.lload 6, 2) := by decide +kernel
theorem dX12_acquires_165 : decode cX12_acquires 165 = .ok (.invokevirtual 370, 3) := by decide +kernel
theorem dX12_acquires_168 : decode cX12_acquires 168 = .ok (.goto 12, 3) := by decide +kernel
theorem dX12_acquires_171 : decode cX12_acquires 171 = .ok (.aload_n 0, 1) := by decide +kernel
theorem dX12_acquires_172 : decode cX12_acquires 172 = .ok (.iload_n 1, 1) := by decide +kernel
theorem dX12_acquires_173 : decode cX12_acquires 173 = .ok (.iload 5, 2) := by decide +kernel
theorem dX12_acquires_175 : decode cX12_acquires 175 = .ok (.lload 6, 2) := by decide +kernel
theorem dX12_acquires_177 : decode cX12_acquires 177 = .ok (.invokevirtual 391, 3) := by decide +kernel
theorem dX12_acquires_180 : decode cX12_acquires 180 = .ok (.goto (-169), 3) := by decide +kernel
theorem dX12_acquires_183 : decode cX12_acquires 183 = .ok (.return_, 1) := by decide +kernel
theorem dX12_isHouse_0 : decode cX12_isHouse 0 = .ok (.iload_n 1, 1) := by decide +kernel
theorem dX12_isHouse_1 : decode cX12_isHouse 1 = .ok (.ifCond .lt 13, 3) := by decide +kernel
theorem dX12_isHouse_4 : decode cX12_isHouse 4 = .ok (.iload_n 1, 1) := by decide +kernel
theorem dX12_isHouse_5 : decode cX12_isHouse 5 = .ok (.bipush 8, 2) := by decide +kernel
theorem dX12_isHouse_7 : decode cX12_isHouse 7 = .ok (.if_icmp .ge 7, 3) := by decide +kernel
theorem dX12_isHouse_10 : decode cX12_isHouse 10 = .ok (.iconst 1, 1) := by decide +kernel
theorem dX12_isHouse_11 : decode cX12_isHouse 11 = .ok (.goto 4, 3) := by decide +kernel
theorem dX12_isHouse_14 : decode cX12_isHouse 14 = .ok (.iconst 0, 1) := by decide +kernel
theorem dX12_isHouse_15 : decode cX12_isHouse 15 = .ok (.ireturn, 1) := by decide +kernel
theorem dX12_begin_0 : decode cX12_begin 0 = .ok (.aload_n 0, 1) := by decide +kernel
theorem dX12_begin_1 : decode cX12_begin 1 = .ok (.getfield 394, 3) := by decide +kernel
theorem dX12_begin_4 : decode cX12_begin 4 = .ok (.bipush 40, 2) := by decide +kernel
theorem dX12_begin_6 : decode cX12_begin 6 = .ok (.if_icmp .eq 32, 3) := by decide +kernel
theorem dX12_begin_9 : decode cX12_begin 9 = .ok (.aload_n 0, 1) := by decide +kernel
theorem dX12_begin_10 : decode cX12_begin 10 = .ok (.iload_n 1, 1) := by decide +kernel
theorem dX12_begin_11 : decode cX12_begin 11 = .ok (.invokevirtual 337, 3) := by decide +kernel
theorem dX12_begin_14 : decode cX12_begin 14 = .ok (.ifCond .eq 24, 3) := by decide +kernel
theorem dX12_begin_17 : decode cX12_begin 17 = .ok (.aload_n 0, 1) := by decide +kernel
theorem dX12_begin_18 : decode cX12_begin 18 = .ok (.iload_n 2, 1) := by decide +kernel
theorem dX12_begin_19 : decode cX12_begin 19 = .ok (.invokevirtual 397, 3) := by decide +kernel
theorem dX12_begin_22 : decode cX12_begin 22 = .ok (.ifCond .eq 16, 3) := by decide +kernel
theorem dX12_begin_25 : decode cX12_begin 25 = .ok (.aload_n 0, 1) := by decide +kernel
theorem dX12_begin_26 : decode cX12_begin 26 = .ok (.iload_n 3, 1) := by decide +kernel
theorem dX12_begin_27 : decode cX12_begin 27 = .ok (.invokevirtual 397, 3) := by decide +kernel
theorem dX12_begin_30 : decode cX12_begin 30 = .ok (.ifCond .eq 8, 3) := by decide +kernel
theorem dX12_begin_33 : decode cX12_begin 33 = .ok (.iload_n 2, 1) := by decide +kernel
theorem dX12_begin_34 : decode cX12_begin 34 = .ok (.iload_n 3, 1) := by decide +kernel
theorem dX12_begin_35 : decode cX12_begin 35 = .ok (.if_icmp .ne 5, 3) := by decide +kernel
theorem dX12_begin_38 : decode cX12_begin 38 = .ok (.iconst (-1), 1) := by decide +kernel
theorem dX12_begin_39 : decode cX12_begin 39 = .ok (.ireturn, 1) := by decide +kernel
theorem dX12_begin_40 : decode cX12_begin 40 = .ok (.aload_n 0, 1) := by decide +kernel
theorem dX12_begin_41 : decode cX12_begin 41 = .ok (.getfield 97, 3) := by decide +kernel
theorem dX12_begin_44 : decode cX12_begin 44 = .ok (.aload_n 0, 1) := by decide +kernel
theorem dX12_begin_45 : decode cX12_begin 45 = .ok (.getfield 394, 3) := by decide +kernel
theorem dX12_begin_48 : decode cX12_begin 48 = .ok (.iload_n 1, 1) := by decide +kernel
theorem dX12_begin_49 : decode cX12_begin 49 = .ok (.iastore, 1) := by decide +kernel
theorem dX12_begin_50 : decode cX12_begin 50 = .ok (.aload_n 0, 1) := by decide +kernel
theorem dX12_begin_51 : decode cX12_begin 51 = .ok (.getfield 100, 3) := by decide +kernel
theorem dX12_begin_54 : decode cX12_begin 54 = .ok (.aload_n 0, 1) := by decide +kernel
theorem dX12_begin_55 : decode cX12_begin 55 = .ok (.getfield 394, 3) := by decide +kernel
theorem dX12_begin_58 : decode cX12_begin 58 = .ok (.iload_n 2, 1) := by decide +kernel
theorem dX12_begin_59 : decode cX12_begin 59 = .ok (.iastore, 1) := by decide +kernel
theorem dX12_begin_60 : decode cX12_begin 60 = .ok (.aload_n 0, 1) := by decide +kernel
theorem dX12_begin_61 : decode cX12_begin 61 = .ok (.getfield 103, 3) := by decide +kernel
theorem dX12_begin_64 : decode cX12_begin 64 = .ok (.aload_n 0, 1) := by decide +kernel
theorem dX12_begin_65 : decode cX12_begin 65 = .ok (.getfield 394, 3) := by decide +kernel
theorem dX12_begin_68 : decode cX12_begin 68 = .ok (.iload_n 3, 1) := by decide +kernel
theorem dX12_begin_69 : decode cX12_begin 69 = .ok (.iastore, 1) := by decide +kernel
theorem dX12_begin_70 : decode cX12_begin 70 = .ok (.aload_n 0, 1) := by decide +kernel
theorem dX12_begin_71 : decode cX12_begin 71 = .ok (.dup, 1) := by decide +kernel
theorem dX12_begin_72 : decode cX12_begin 72 = .ok (.getfield 394, 3) := by decide +kernel
theorem dX12_begin_75 : decode cX12_begin 75 = .ok (.iconst 1, 1) := by decide +kernel
theorem dX12_begin_76 : decode cX12_begin 76 = .ok (.iadd, 1) := by decide +kernel
theorem dX12_begin_77 : decode cX12_begin 77 = .ok (.putfield 394, 3) := by decide +kernel
theorem dX12_begin_80 : decode cX12_begin 80 = .ok (.aload_n 0, 1) := by decide +kernel
theorem dX12_begin_81 : decode cX12_begin 81 = .ok (.invokevirtual 400, 3) := by decide +kernel
theorem dX12_begin_84 : decode cX12_begin 84 = .ok (.aload_n 0, 1) := by decide +kernel
theorem dX12_begin_85 : decode cX12_begin 85 = .ok (.aload_n 0, 1) := by decide +kernel
theorem dX12_begin_86 : decode cX12_begin 86 = .ok (.getfield 394, 3) := by decide +kernel
theorem dX12_begin_89 : decode cX12_begin 89 = .ok (.iconst 1, 1) := by decide +kernel
theorem dX12_begin_90 : decode cX12_begin 90 = .ok (.isub, 1) := by decide +kernel
theorem dX12_begin_91 : decode cX12_begin 91 = .ok (.bipush 40, 2) := by decide +kernel
theorem dX12_begin_93 : decode cX12_begin 93 = .ok (.iload_n 1, 1) := by decide +kernel
theorem dX12_begin_94 : decode cX12_begin 94 = .ok (.imul, 1) := by decide +kernel
theorem dX12_begin_95 : decode cX12_begin 95 = .ok (.lconst 1, 1) := by decide +kernel
theorem dX12_begin_96 : decode cX12_begin 96 = .ok (.invokevirtual 403, 3) := by decide +kernel
theorem dX12_begin_99 : decode cX12_begin 99 = .ok (.aload_n 0, 1) := by decide +kernel
theorem dX12_begin_100 : decode cX12_begin 100 = .ok (.getfield 394, 3) := by decide +kernel
theorem dX12_begin_103 : decode cX12_begin 103 = .ok (.iconst 1, 1) := by decide +kernel
theorem dX12_begin_104 : decode cX12_begin 104 = .ok (.isub, 1) := by decide +kernel
theorem dX12_begin_105 : decode cX12_begin 105 = .ok (.ireturn, 1) := by decide +kernel
theorem dX12_leaves_0 : decode cX12_leaves 0 = .ok (.aload_n 0, 1) := by decide +kernel
theorem dX12_leaves_1 : decode cX12_leaves 1 = .ok (.getfield 109, 3) := by decide +kernel
theorem dX12_leaves_4 : decode cX12_leaves 4 = .ok (.iload_n 1, 1) := by decide +kernel
theorem dX12_leaves_5 : decode cX12_leaves 5 = .ok (.dup2, 1) := by decide +kernel
theorem dX12_leaves_6 : decode cX12_leaves 6 = .ok (.iaload, 1) := by decide +kernel
theorem dX12_leaves_7 : decode cX12_leaves 7 = .ok (.iconst 1, 1) := by decide +kernel
theorem dX12_leaves_8 : decode cX12_leaves 8 = .ok (.isub, 1) := by decide +kernel
theorem dX12_leaves_9 : decode cX12_leaves 9 = .ok (.iastore, 1) := by decide +kernel
theorem dX12_leaves_10 : decode cX12_leaves 10 = .ok (.bipush 40, 2) := by decide +kernel
theorem dX12_leaves_12 : decode cX12_leaves 12 = .ok (.iload_n 1, 1) := by decide +kernel
theorem dX12_leaves_13 : decode cX12_leaves 13 = .ok (.imul, 1) := by decide +kernel
theorem dX12_leaves_14 : decode cX12_leaves 14 = .ok (.iload_n 2, 1) := by decide +kernel
theorem dX12_leaves_15 : decode cX12_leaves 15 = .ok (.iadd, 1) := by decide +kernel
theorem dX12_leaves_16 : decode cX12_leaves 16 = .ok (.istore_n 3, 1) := by decide +kernel
theorem dX12_leaves_17 : decode cX12_leaves 17 = .ok (.iload_n 3, 1) := by decide +kernel
theorem dX12_leaves_18 : decode cX12_leaves 18 = .ok (.bipush 40, 2) := by decide +kernel
theorem dX12_leaves_20 : decode cX12_leaves 20 = .ok (.iload_n 1, 1) := by decide +kernel
theorem dX12_leaves_21 : decode cX12_leaves 21 = .ok (.imul, 1) := by decide +kernel
theorem dX12_leaves_22 : decode cX12_leaves 22 = .ok (.aload_n 0, 1) := by decide +kernel
theorem dX12_leaves_23 : decode cX12_leaves 23 = .ok (.getfield 109, 3) := by decide +kernel
theorem dX12_leaves_26 : decode cX12_leaves 26 = .ok (.iload_n 1, 1) := by decide +kernel
theorem dX12_leaves_27 : decode cX12_leaves 27 = .ok (.iaload, 1) := by decide +kernel
theorem dX12_leaves_28 : decode cX12_leaves 28 = .ok (.iadd, 1) := by decide +kernel
theorem dX12_leaves_29 : decode cX12_leaves 29 = .ok (.if_icmp .ge 37, 3) := by decide +kernel
theorem dX12_leaves_32 : decode cX12_leaves 32 = .ok (.aload_n 0, 1) := by decide +kernel
theorem dX12_leaves_33 : decode cX12_leaves 33 = .ok (.getfield 112, 3) := by decide +kernel
theorem dX12_leaves_36 : decode cX12_leaves 36 = .ok (.iload_n 3, 1) := by decide +kernel
theorem dX12_leaves_37 : decode cX12_leaves 37 = .ok (.aload_n 0, 1) := by decide +kernel
theorem dX12_leaves_38 : decode cX12_leaves 38 = .ok (.getfield 112, 3) := by decide +kernel
theorem dX12_leaves_41 : decode cX12_leaves 41 = .ok (.iload_n 3, 1) := by decide +kernel
theorem dX12_leaves_42 : decode cX12_leaves 42 = .ok (.iconst 1, 1) := by decide +kernel
theorem dX12_leaves_43 : decode cX12_leaves 43 = .ok (.iadd, 1) := by decide +kernel
theorem dX12_leaves_44 : decode cX12_leaves 44 = .ok (.iaload, 1) := by decide +kernel
theorem dX12_leaves_45 : decode cX12_leaves 45 = .ok (.iastore, 1) := by decide +kernel
theorem dX12_leaves_46 : decode cX12_leaves 46 = .ok (.aload_n 0, 1) := by decide +kernel
theorem dX12_leaves_47 : decode cX12_leaves 47 = .ok (.getfield 115, 3) := by decide +kernel
theorem dX12_leaves_50 : decode cX12_leaves 50 = .ok (.iload_n 3, 1) := by decide +kernel
theorem dX12_leaves_51 : decode cX12_leaves 51 = .ok (.aload_n 0, 1) := by decide +kernel
theorem dX12_leaves_52 : decode cX12_leaves 52 = .ok (.getfield 115, 3) := by decide +kernel
theorem dX12_leaves_55 : decode cX12_leaves 55 = .ok (.iload_n 3, 1) := by decide +kernel
theorem dX12_leaves_56 : decode cX12_leaves 56 = .ok (.iconst 1, 1) := by decide +kernel
theorem dX12_leaves_57 : decode cX12_leaves 57 = .ok (.iadd, 1) := by decide +kernel
theorem dX12_leaves_58 : decode cX12_leaves 58 = .ok (.laload, 1) := by decide +kernel
theorem dX12_leaves_59 : decode cX12_leaves 59 = .ok (.lastore, 1) := by decide +kernel
theorem dX12_leaves_60 : decode cX12_leaves 60 = .ok (.iinc 3 1, 3) := by decide +kernel
theorem dX12_leaves_63 : decode cX12_leaves 63 = .ok (.goto (-46), 3) := by decide +kernel
theorem dX12_leaves_66 : decode cX12_leaves 66 = .ok (.return_, 1) := by decide +kernel
theorem dX12_day_0 : decode cX12_day 0 = .ok (.aload_n 0, 1) := by decide +kernel
theorem dX12_day_1 : decode cX12_day 1 = .ok (.getfield 249, 3) := by decide +kernel
theorem dX12_day_4 : decode cX12_day 4 = .ok (.sipush 399, 3) := by decide +kernel
theorem dX12_day_7 : decode cX12_day 7 = .ok (.if_icmp .ne 5, 3) := by decide +kernel
theorem dX12_day_10 : decode cX12_day 10 = .ok (.iconst (-1), 1) := by decide +kernel
theorem dX12_day_11 : decode cX12_day 11 = .ok (.ireturn, 1) := by decide +kernel
theorem dX12_day_12 : decode cX12_day 12 = .ok (.aload_n 0, 1) := by decide +kernel
theorem dX12_day_13 : decode cX12_day 13 = .ok (.dup, 1) := by decide +kernel
theorem dX12_day_14 : decode cX12_day 14 = .ok (.getfield 249, 3) := by decide +kernel
theorem dX12_day_17 : decode cX12_day 17 = .ok (.iconst 1, 1) := by decide +kernel
theorem dX12_day_18 : decode cX12_day 18 = .ok (.iadd, 1) := by decide +kernel
theorem dX12_day_19 : decode cX12_day 19 = .ok (.putfield 249, 3) := by decide +kernel
theorem dX12_day_22 : decode cX12_day 22 = .ok (.aload_n 0, 1) := by decide +kernel
theorem dX12_day_23 : decode cX12_day 23 = .ok (.invokevirtual 400, 3) := by decide +kernel
theorem dX12_day_26 : decode cX12_day 26 = .ok (.aload_n 0, 1) := by decide +kernel
theorem dX12_day_27 : decode cX12_day 27 = .ok (.getfield 364, 3) := by decide +kernel
theorem dX12_day_30 : decode cX12_day 30 = .ok (.istore_n 1, 1) := by decide +kernel
theorem dX12_day_31 : decode cX12_day 31 = .ok (.iconst 0, 1) := by decide +kernel
theorem dX12_day_32 : decode cX12_day 32 = .ok (.istore_n 2, 1) := by decide +kernel
theorem dX12_day_33 : decode cX12_day 33 = .ok (.iload_n 2, 1) := by decide +kernel
theorem dX12_day_34 : decode cX12_day 34 = .ok (.aload_n 0, 1) := by decide +kernel
theorem dX12_day_35 : decode cX12_day 35 = .ok (.getfield 394, 3) := by decide +kernel
theorem dX12_day_38 : decode cX12_day 38 = .ok (.if_icmp .ge 144, 3) := by decide +kernel
theorem dX12_day_41 : decode cX12_day 41 = .ok (.iconst 0, 1) := by decide +kernel
theorem dX12_day_42 : decode cX12_day 42 = .ok (.istore_n 3, 1) := by decide +kernel
theorem dX12_day_43 : decode cX12_day 43 = .ok (.aload_n 0, 1) := by decide +kernel
theorem dX12_day_44 : decode cX12_day 44 = .ok (.getfield 109, 3) := by decide +kernel
theorem dX12_day_47 : decode cX12_day 47 = .ok (.iload_n 2, 1) := by decide +kernel
theorem dX12_day_48 : decode cX12_day 48 = .ok (.iaload, 1) := by decide +kernel
theorem dX12_day_49 : decode cX12_day 49 = .ok (.istore 4, 2) := by decide +kernel
theorem dX12_day_51 : decode cX12_day 51 = .ok (.iload 4, 2) := by decide +kernel
theorem dX12_day_53 : decode cX12_day 53 = .ok (.ifCond .le 123, 3) := by decide +kernel
theorem dX12_day_56 : decode cX12_day 56 = .ok (.aload_n 0, 1) := by decide +kernel
theorem dX12_day_57 : decode cX12_day 57 = .ok (.getfield 112, 3) := by decide +kernel
theorem dX12_day_60 : decode cX12_day 60 = .ok (.bipush 40, 2) := by decide +kernel
theorem dX12_day_62 : decode cX12_day 62 = .ok (.iload_n 2, 1) := by decide +kernel
theorem dX12_day_63 : decode cX12_day 63 = .ok (.imul, 1) := by decide +kernel
theorem dX12_day_64 : decode cX12_day 64 = .ok (.iload_n 3, 1) := by decide +kernel
theorem dX12_day_65 : decode cX12_day 65 = .ok (.iadd, 1) := by decide +kernel
theorem dX12_day_66 : decode cX12_day 66 = .ok (.iaload, 1) := by decide +kernel
theorem dX12_day_67 : decode cX12_day 67 = .ok (.istore 5, 2) := by decide +kernel
theorem dX12_day_69 : decode cX12_day 69 = .ok (.aload_n 0, 1) := by decide +kernel
theorem dX12_day_70 : decode cX12_day 70 = .ok (.getfield 115, 3) := by decide +kernel
theorem dX12_day_73 : decode cX12_day 73 = .ok (.bipush 40, 2) := by decide +kernel
theorem dX12_day_75 : decode cX12_day 75 = .ok (.iload_n 2, 1) := by decide +kernel
theorem dX12_day_76 : decode cX12_day 76 = .ok (.imul, 1) := by decide +kernel
theorem dX12_day_77 : decode cX12_day 77 = .ok (.iload_n 3, 1) := by decide +kernel
theorem dX12_day_78 : decode cX12_day 78 = .ok (.iadd, 1) := by decide +kernel
theorem dX12_day_79 : decode cX12_day 79 = .ok (.laload, 1) := by decide +kernel
theorem dX12_day_80 : decode cX12_day 80 = .ok (.lstore 6, 2) := by decide +kernel
theorem dX12_day_82 : decode cX12_day 82 = .ok (.aload_n 0, 1) := by decide +kernel
theorem dX12_day_83 : decode cX12_day 83 = .ok (.iload 5, 2) := by decide +kernel
theorem dX12_day_85 : decode cX12_day 85 = .ok (.invokevirtual 374, 3) := by decide +kernel
theorem dX12_day_88 : decode cX12_day 88 = .ok (.istore 8, 2) := by decide +kernel
theorem dX12_day_90 : decode cX12_day 90 = .ok (.iload 8, 2) := by decide +kernel
theorem dX12_day_92 : decode cX12_day 92 = .ok (.ifCond .ne 35, 3) := by decide +kernel
theorem dX12_day_95 : decode cX12_day 95 = .ok (.aload_n 0, 1) := by decide +kernel
theorem dX12_day_96 : decode cX12_day 96 = .ok (.getfield 20, 3) := by decide +kernel
theorem dX12_day_99 : decode cX12_day 99 = .ok (.iload 5, 2) := by decide +kernel
theorem dX12_day_101 : decode cX12_day 101 = .ok (.iaload, 1) := by decide +kernel
theorem dX12_day_102 : decode cX12_day 102 = .ok (.iconst 4, 1) := by decide +kernel
theorem dX12_day_103 : decode cX12_day 103 = .ok (.if_icmp .eq 24, 3) := by decide +kernel
theorem dX12_day_106 : decode cX12_day 106 = .ok (.aload_n 0, 1) := by decide +kernel
theorem dX12_day_107 : decode cX12_day 107 = .ok (.getfield 20, 3) := by decide +kernel
theorem dX12_day_110 : decode cX12_day 110 = .ok (.iload 5, 2) := by decide +kernel
theorem dX12_day_112 : decode cX12_day 112 = .ok (.iaload, 1) := by decide +kernel
theorem dX12_day_113 : decode cX12_day 113 = .ok (.bipush 6, 2) := by decide +kernel
theorem dX12_day_115 : decode cX12_day 115 = .ok (.if_icmp .ne 16, 3) := by decide +kernel
theorem dX12_day_118 : decode cX12_day 118 = .ok (.aload_n 0, 1) := by decide +kernel
theorem dX12_day_119 : decode cX12_day 119 = .ok (.iload 5, 2) := by decide +kernel
theorem dX12_day_121 : decode cX12_day 121 = .ok (.invokevirtual 348, 3) := by decide +kernel
theorem dX12_day_124 : decode cX12_day 124 = .ok (.ifCond .eq 7, 3) := by decide +kernel
theorem dX12_day_127 : decode cX12_day 127 = .ok (.iconst 1, 1) := by decide +kernel
theorem dX12_day_128 : decode cX12_day 128 = .ok (.goto 4, 3) := by decide +kernel
theorem dX12_day_131 : decode cX12_day 131 = .ok (.iconst 0, 1) := by decide +kernel
theorem dX12_day_132 : decode cX12_day 132 = .ok (.istore 9, 2) := by decide +kernel
theorem dX12_day_134 : decode cX12_day 134 = .ok (.iload 9, 2) := by decide +kernel
theorem dX12_day_136 : decode cX12_day 136 = .ok (.ifCond .ne 9, 3) := by decide +kernel
theorem dX12_day_139 : decode cX12_day 139 = .ok (.iinc 3 1, 3) := by decide +kernel
theorem dX12_day_142 : decode cX12_day 142 = .ok (.goto 28, 3) := by decide +kernel
theorem dX12_day_145 : decode cX12_day 145 = .ok (.aload_n 0, 1) := by decide +kernel
theorem dX12_day_146 : decode cX12_day 146 = .ok (.iload_n 2, 1) := by decide +kernel
theorem dX12_day_147 : decode cX12_day 147 = .ok (.iload_n 3, 1) := by decide +kernel
theorem dX12_day_148 : decode cX12_day 148 = .ok (.invokevirtual 406, 3) := by decide +kernel
theorem dX12_day_151 : decode cX12_day 151 = .ok (.iload 8, 2) := by decide +kernel
theorem dX12_day_153 : decode cX12_day 153 = .ok (.ifCond .ne 17, 3) := by decide +kernel
theorem dX12_day_156 : decode cX12_day 156 = .ok (.aload_n 0, 1) := by decide +kernel
theorem dX12_day_157 : decode cX12_day 157 = .ok (.iload_n 2, 1) := by decide +kernel
theorem dX12_day_158 : decode cX12_day 158 = .ok (.aload_n 0, 1) := by decide +kernel
theorem dX12_day_159 : decode cX12_day 159 = .ok (.getfield 32, 3) := by decide +kernel
theorem dX12_day_162 : decode cX12_day 162 = .ok (.iload 5, 2) := by decide +kernel
theorem dX12_day_164 : decode cX12_day 164 = .ok (.iaload, 1) := by decide +kernel
theorem dX12_day_165 : decode cX12_day 165 = .ok (.lload 6, 2) := by decide +kernel
theorem dX12_day_167 : decode cX12_day 167 = .ok (.invokevirtual 403, 3) := by decide +kernel
theorem dX12_day_170 : decode cX12_day 170 = .ok (.iinc 4 (-1), 3) := by decide +kernel
theorem dX12_day_173 : decode cX12_day 173 = .ok (.goto (-122), 3) := by decide +kernel
theorem dX12_day_176 : decode cX12_day 176 = .ok (.iinc 2 1, 3) := by decide +kernel
theorem dX12_day_179 : decode cX12_day 179 = .ok (.goto (-146), 3) := by decide +kernel
theorem dX12_day_182 : decode cX12_day 182 = .ok (.aload_n 0, 1) := by decide +kernel
theorem dX12_day_183 : decode cX12_day 183 = .ok (.getfield 364, 3) := by decide +kernel
theorem dX12_day_186 : decode cX12_day 186 = .ok (.iload_n 1, 1) := by decide +kernel
theorem dX12_day_187 : decode cX12_day 187 = .ok (.isub, 1) := by decide +kernel
theorem dX12_day_188 : decode cX12_day 188 = .ok (.ireturn, 1) := by decide +kernel
theorem dX12_isLife_0 : decode cX12_isLife 0 = .ok (.iload_n 1, 1) := by decide +kernel
theorem dX12_isLife_1 : decode cX12_isLife 1 = .ok (.ifCond .lt 15, 3) := by decide +kernel
theorem dX12_isLife_4 : decode cX12_isLife 4 = .ok (.iload_n 1, 1) := by decide +kernel
theorem dX12_isLife_5 : decode cX12_isLife 5 = .ok (.aload_n 0, 1) := by decide +kernel
theorem dX12_isLife_6 : decode cX12_isLife 6 = .ok (.getfield 394, 3) := by decide +kernel
theorem dX12_isLife_9 : decode cX12_isLife 9 = .ok (.if_icmp .ge 7, 3) := by decide +kernel
theorem dX12_isLife_12 : decode cX12_isLife 12 = .ok (.iconst 1, 1) := by decide +kernel
theorem dX12_isLife_13 : decode cX12_isLife 13 = .ok (.goto 4, 3) := by decide +kernel
theorem dX12_isLife_16 : decode cX12_isLife 16 = .ok (.iconst 0, 1) := by decide +kernel
theorem dX12_isLife_17 : decode cX12_isLife 17 = .ok (.ireturn, 1) := by decide +kernel
theorem dX12_isStanding_0 : decode cX12_isStanding 0 = .ok (.aload_n 0, 1) := by decide +kernel
theorem dX12_isStanding_1 : decode cX12_isStanding 1 = .ok (.iload_n 1, 1) := by decide +kernel
theorem dX12_isStanding_2 : decode cX12_isStanding 2 = .ok (.invokevirtual 410, 3) := by decide +kernel
theorem dX12_isStanding_5 : decode cX12_isStanding 5 = .ok (.ifCond .eq 25, 3) := by decide +kernel
theorem dX12_isStanding_8 : decode cX12_isStanding 8 = .ok (.iload_n 2, 1) := by decide +kernel
theorem dX12_isStanding_9 : decode cX12_isStanding 9 = .ok (.i2l, 1) := by decide +kernel
theorem dX12_isStanding_10 : decode cX12_isStanding 10 = .ok (.lconst 0, 1) := by decide +kernel
theorem dX12_isStanding_11 : decode cX12_isStanding 11 = .ok (.aload_n 0, 1) := by decide +kernel
theorem dX12_isStanding_12 : decode cX12_isStanding 12 = .ok (.getfield 109, 3) := by decide +kernel
theorem dX12_isStanding_15 : decode cX12_isStanding 15 = .ok (.iload_n 1, 1) := by decide +kernel
theorem dX12_isStanding_16 : decode cX12_isStanding 16 = .ok (.iaload, 1) := by decide +kernel
theorem dX12_isStanding_17 : decode cX12_isStanding 17 = .ok (.iconst 1, 1) := by decide +kernel
theorem dX12_isStanding_18 : decode cX12_isStanding 18 = .ok (.isub, 1) := by decide +kernel
theorem dX12_isStanding_19 : decode cX12_isStanding 19 = .ok (.i2l, 1) := by decide +kernel
theorem dX12_isStanding_20 : decode cX12_isStanding 20 = .ok (.invokestatic 245, 3) := by decide +kernel
theorem dX12_isStanding_23 : decode cX12_isStanding 23 = .ok (.ifCond .eq 7, 3) := by decide +kernel
theorem dX12_isStanding_26 : decode cX12_isStanding 26 = .ok (.iconst 1, 1) := by decide +kernel
theorem dX12_isStanding_27 : decode cX12_isStanding 27 = .ok (.goto 4, 3) := by decide +kernel
theorem dX12_isStanding_30 : decode cX12_isStanding 30 = .ok (.iconst 0, 1) := by decide +kernel
theorem dX12_isStanding_31 : decode cX12_isStanding 31 = .ok (.ireturn, 1) := by decide +kernel
theorem dX12_stands_0 : decode cX12_stands 0 = .ok (.aload_n 0, 1) := by decide +kernel
theorem dX12_stands_1 : decode cX12_stands 1 = .ok (.iload_n 1, 1) := by decide +kernel
theorem dX12_stands_2 : decode cX12_stands 2 = .ok (.invokevirtual 410, 3) := by decide +kernel
theorem dX12_stands_5 : decode cX12_stands 5 = .ok (.ifCond .eq 12, 3) := by decide +kernel
theorem dX12_stands_8 : decode cX12_stands 8 = .ok (.aload_n 0, 1) := by decide +kernel
theorem dX12_stands_9 : decode cX12_stands 9 = .ok (.getfield 109, 3) := by decide +kernel
theorem dX12_stands_12 : decode cX12_stands 12 = .ok (.iload_n 1, 1) := by decide +kernel
theorem dX12_stands_13 : decode cX12_stands 13 = .ok (.iaload, 1) := by decide +kernel
theorem dX12_stands_14 : decode cX12_stands 14 = .ok (.goto 4, 3) := by decide +kernel
theorem dX12_stands_17 : decode cX12_stands 17 = .ok (.iconst (-1), 1) := by decide +kernel
theorem dX12_stands_18 : decode cX12_stands 18 = .ok (.ireturn, 1) := by decide +kernel
theorem dX12_choosing_0 : decode cX12_choosing 0 = .ok (.aload_n 0, 1) := by decide +kernel
theorem dX12_choosing_1 : decode cX12_choosing 1 = .ok (.iload_n 2, 1) := by decide +kernel
theorem dX12_choosing_2 : decode cX12_choosing 2 = .ok (.invokevirtual 413, 3) := by decide +kernel
theorem dX12_choosing_5 : decode cX12_choosing 5 = .ok (.ifCond .ne 12, 3) := by decide +kernel
theorem dX12_choosing_8 : decode cX12_choosing 8 = .ok (.aload_n 0, 1) := by decide +kernel
theorem dX12_choosing_9 : decode cX12_choosing 9 = .ok (.getfield 100, 3) := by decide +kernel
theorem dX12_choosing_12 : decode cX12_choosing 12 = .ok (.iload_n 1, 1) := by decide +kernel
theorem dX12_choosing_13 : decode cX12_choosing 13 = .ok (.iaload, 1) := by decide +kernel
theorem dX12_choosing_14 : decode cX12_choosing 14 = .ok (.goto 9, 3) := by decide +kernel
theorem dX12_choosing_17 : decode cX12_choosing 17 = .ok (.aload_n 0, 1) := by decide +kernel
theorem dX12_choosing_18 : decode cX12_choosing 18 = .ok (.getfield 103, 3) := by decide +kernel
theorem dX12_choosing_21 : decode cX12_choosing 21 = .ok (.iload_n 1, 1) := by decide +kernel
theorem dX12_choosing_22 : decode cX12_choosing 22 = .ok (.iaload, 1) := by decide +kernel
theorem dX12_choosing_23 : decode cX12_choosing 23 = .ok (.ireturn, 1) := by decide +kernel
theorem dX12_standing_0 : decode cX12_standing 0 = .ok (.aload_n 0, 1) := by decide +kernel
theorem dX12_standing_1 : decode cX12_standing 1 = .ok (.iload_n 1, 1) := by decide +kernel
theorem dX12_standing_2 : decode cX12_standing 2 = .ok (.iload_n 2, 1) := by decide +kernel
theorem dX12_standing_3 : decode cX12_standing 3 = .ok (.invokevirtual 416, 3) := by decide +kernel
theorem dX12_standing_6 : decode cX12_standing 6 = .ok (.ifCond .ne 5, 3) := by decide +kernel
theorem dX12_standing_9 : decode cX12_standing 9 = .ok (.iconst (-1), 1) := by decide +kernel
theorem dX12_standing_10 : decode cX12_standing 10 = .ok (.ireturn, 1) := by decide +kernel
theorem dX12_standing_11 : decode cX12_standing 11 = .ok (.aload_n 0, 1) := by decide +kernel
theorem dX12_standing_12 : decode cX12_standing 12 = .ok (.getfield 112, 3) := by decide +kernel
theorem dX12_standing_15 : decode cX12_standing 15 = .ok (.bipush 40, 2) := by decide +kernel
theorem dX12_standing_17 : decode cX12_standing 17 = .ok (.iload_n 1, 1) := by decide +kernel
theorem dX12_standing_18 : decode cX12_standing 18 = .ok (.imul, 1) := by decide +kernel
theorem dX12_standing_19 : decode cX12_standing 19 = .ok (.iload_n 2, 1) := by decide +kernel
theorem dX12_standing_20 : decode cX12_standing 20 = .ok (.iadd, 1) := by decide +kernel
theorem dX12_standing_21 : decode cX12_standing 21 = .ok (.iaload, 1) := by decide +kernel
theorem dX12_standing_22 : decode cX12_standing 22 = .ok (.istore 4, 2) := by decide +kernel
theorem dX12_standing_24 : decode cX12_standing 24 = .ok (.aload_n 0, 1) := by decide +kernel
theorem dX12_standing_25 : decode cX12_standing 25 = .ok (.invokevirtual 400, 3) := by decide +kernel
theorem dX12_standing_28 : decode cX12_standing 28 = .ok (.iload_n 3, 1) := by decide +kernel
theorem dX12_standing_29 : decode cX12_standing 29 = .ok (.tableswitch 118 0 6 #[43, 49, 57, 65, 78, 85, 92], 43) := by decide +kernel
theorem dX12_standing_72 : decode cX12_standing 72 = .ok (.iload 4, 2) := by decide +kernel
theorem dX12_standing_74 : decode cX12_standing 74 = .ok (.bipush 40, 2) := by decide +kernel
theorem dX12_standing_76 : decode cX12_standing 76 = .ok (.irem, 1) := by decide +kernel
theorem dX12_standing_77 : decode cX12_standing 77 = .ok (.ireturn, 1) := by decide +kernel
theorem dX12_standing_78 : decode cX12_standing 78 = .ok (.aload_n 0, 1) := by decide +kernel
theorem dX12_standing_79 : decode cX12_standing 79 = .ok (.getfield 20, 3) := by decide +kernel
theorem dX12_standing_82 : decode cX12_standing 82 = .ok (.iload 4, 2) := by decide +kernel
theorem dX12_standing_84 : decode cX12_standing 84 = .ok (.iaload, 1) := by decide +kernel
theorem dX12_standing_85 : decode cX12_standing 85 = .ok (.ireturn, 1) := by decide +kernel
theorem dX12_standing_86 : decode cX12_standing 86 = .ok (.aload_n 0, 1) := by decide +kernel
theorem dX12_standing_87 : decode cX12_standing 87 = .ok (.iload_n 1, 1) := by decide +kernel
theorem dX12_standing_88 : decode cX12_standing 88 = .ok (.iload 4, 2) := by decide +kernel
theorem dX12_standing_90 : decode cX12_standing 90 = .ok (.invokevirtual 419, 3) := by decide +kernel
theorem dX12_standing_93 : decode cX12_standing 93 = .ok (.ireturn, 1) := by decide +kernel
theorem dX12_standing_94 : decode cX12_standing 94 = .ok (.aload_n 0, 1) := by decide +kernel
theorem dX12_standing_95 : decode cX12_standing 95 = .ok (.getfield 115, 3) := by decide +kernel
theorem dX12_standing_98 : decode cX12_standing 98 = .ok (.bipush 40, 2) := by decide +kernel
theorem dX12_standing_100 : decode cX12_standing 100 = .ok (.iload_n 1, 1) := by decide +kernel
theorem dX12_standing_101 : decode cX12_standing 101 = .ok (.imul, 1) := by decide +kernel
theorem dX12_standing_102 : decode cX12_standing 102 = .ok (.iload_n 2, 1) := by decide +kernel
theorem dX12_standing_103 : decode cX12_standing 103 = .ok (.iadd, 1) := by decide +kernel
theorem dX12_standing_104 : decode cX12_standing 104 = .ok (.laload, 1) := by decide +kernel
theorem dX12_standing_105 : decode cX12_standing 105 = .ok (.l2i, 1) := by decide +kernel
theorem dX12_standing_106 : decode cX12_standing 106 = .ok (.ireturn, 1) := by decide +kernel
theorem dX12_standing_107 : decode cX12_standing 107 = .ok (.aload_n 0, 1) := by decide +kernel
theorem dX12_standing_108 : decode cX12_standing 108 = .ok (.iload 4, 2) := by decide +kernel
theorem dX12_standing_110 : decode cX12_standing 110 = .ok (.invokevirtual 351, 3) := by decide +kernel
theorem dX12_standing_113 : decode cX12_standing 113 = .ok (.ireturn, 1) := by decide +kernel
theorem dX12_standing_114 : decode cX12_standing 114 = .ok (.aload_n 0, 1) := by decide +kernel
theorem dX12_standing_115 : decode cX12_standing 115 = .ok (.iload 4, 2) := by decide +kernel
theorem dX12_standing_117 : decode cX12_standing 117 = .ok (.invokevirtual 422, 3) := by decide +kernel
theorem dX12_standing_120 : decode cX12_standing 120 = .ok (.ireturn, 1) := by decide +kernel
theorem dX12_standing_121 : decode cX12_standing 121 = .ok (.aload_n 0, 1) := by decide +kernel
theorem dX12_standing_122 : decode cX12_standing 122 = .ok (.getfield 20, 3) := by decide +kernel
theorem dX12_standing_125 : decode cX12_standing 125 = .ok (.iload 4, 2) := by decide +kernel
theorem dX12_standing_127 : decode cX12_standing 127 = .ok (.iaload, 1) := by decide +kernel
theorem dX12_standing_128 : decode cX12_standing 128 = .ok (.iconst 4, 1) := by decide +kernel
theorem dX12_standing_129 : decode cX12_standing 129 = .ok (.if_icmp .eq 12, 3) := by decide +kernel
theorem dX12_standing_132 : decode cX12_standing 132 = .ok (.aload_n 0, 1) := by decide +kernel
theorem dX12_standing_133 : decode cX12_standing 133 = .ok (.iload 4, 2) := by decide +kernel
theorem dX12_standing_135 : decode cX12_standing 135 = .ok (.invokevirtual 348, 3) := by decide +kernel
theorem dX12_standing_138 : decode cX12_standing 138 = .ok (.ifCond .eq 7, 3) := by decide +kernel
theorem dX12_standing_141 : decode cX12_standing 141 = .ok (.iconst 1, 1) := by decide +kernel
theorem dX12_standing_142 : decode cX12_standing 142 = .ok (.goto 4, 3) := by decide +kernel
theorem dX12_standing_145 : decode cX12_standing 145 = .ok (.iconst 0, 1) := by decide +kernel
theorem dX12_standing_146 : decode cX12_standing 146 = .ok (.ireturn, 1) := by decide +kernel
theorem dX12_standing_147 : decode cX12_standing 147 = .ok (.iconst (-1), 1) := by decide +kernel
theorem dX12_standing_148 : decode cX12_standing 148 = .ok (.ireturn, 1) := by decide +kernel
theorem dX12_choose_0 : decode cX12_choose 0 = .ok (.aload_n 0, 1) := by decide +kernel
theorem dX12_choose_1 : decode cX12_choose 1 = .ok (.iload_n 1, 1) := by decide +kernel
theorem dX12_choose_2 : decode cX12_choose 2 = .ok (.iload_n 2, 1) := by decide +kernel
theorem dX12_choose_3 : decode cX12_choose 3 = .ok (.invokevirtual 416, 3) := by decide +kernel
theorem dX12_choose_6 : decode cX12_choose 6 = .ok (.ifCond .eq 14, 3) := by decide +kernel
theorem dX12_choose_9 : decode cX12_choose 9 = .ok (.iload 4, 2) := by decide +kernel
theorem dX12_choose_11 : decode cX12_choose 11 = .ok (.i2l, 1) := by decide +kernel
theorem dX12_choose_12 : decode cX12_choose 12 = .ok (.lconst 0, 1) := by decide +kernel
theorem dX12_choose_13 : decode cX12_choose 13 = .ok (.lconst 1, 1) := by decide +kernel
theorem dX12_choose_14 : decode cX12_choose 14 = .ok (.invokestatic 245, 3) := by decide +kernel
theorem dX12_choose_17 : decode cX12_choose 17 = .ok (.ifCond .ne 5, 3) := by decide +kernel
theorem dX12_choose_20 : decode cX12_choose 20 = .ok (.iconst (-1), 1) := by decide +kernel
theorem dX12_choose_21 : decode cX12_choose 21 = .ok (.ireturn, 1) := by decide +kernel
theorem dX12_choose_22 : decode cX12_choose 22 = .ok (.aload_n 0, 1) := by decide +kernel
theorem dX12_choose_23 : decode cX12_choose 23 = .ok (.getfield 112, 3) := by decide +kernel
theorem dX12_choose_26 : decode cX12_choose 26 = .ok (.bipush 40, 2) := by decide +kernel
theorem dX12_choose_28 : decode cX12_choose 28 = .ok (.iload_n 1, 1) := by decide +kernel
theorem dX12_choose_29 : decode cX12_choose 29 = .ok (.imul, 1) := by decide +kernel
theorem dX12_choose_30 : decode cX12_choose 30 = .ok (.iload_n 2, 1) := by decide +kernel
theorem dX12_choose_31 : decode cX12_choose 31 = .ok (.iadd, 1) := by decide +kernel
theorem dX12_choose_32 : decode cX12_choose 32 = .ok (.iaload, 1) := by decide +kernel
theorem dX12_choose_33 : decode cX12_choose 33 = .ok (.istore 5, 2) := by decide +kernel
theorem dX12_choose_35 : decode cX12_choose 35 = .ok (.aload_n 0, 1) := by decide +kernel
theorem dX12_choose_36 : decode cX12_choose 36 = .ok (.getfield 115, 3) := by decide +kernel
theorem dX12_choose_39 : decode cX12_choose 39 = .ok (.bipush 40, 2) := by decide +kernel
theorem dX12_choose_41 : decode cX12_choose 41 = .ok (.iload_n 1, 1) := by decide +kernel
theorem dX12_choose_42 : decode cX12_choose 42 = .ok (.imul, 1) := by decide +kernel
theorem dX12_choose_43 : decode cX12_choose 43 = .ok (.iload_n 2, 1) := by decide +kernel
theorem dX12_choose_44 : decode cX12_choose 44 = .ok (.iadd, 1) := by decide +kernel
theorem dX12_choose_45 : decode cX12_choose 45 = .ok (.laload, 1) := by decide +kernel
theorem dX12_choose_46 : decode cX12_choose 46 = .ok (.lstore 6, 2) := by decide +kernel
theorem dX12_choose_48 : decode cX12_choose 48 = .ok (.aload_n 0, 1) := by decide +kernel
theorem dX12_choose_49 : decode cX12_choose 49 = .ok (.invokevirtual 400, 3) := by decide +kernel
theorem dX12_choose_52 : decode cX12_choose 52 = .ok (.aload_n 0, 1) := by decide +kernel
theorem dX12_choose_53 : decode cX12_choose 53 = .ok (.getfield 20, 3) := by decide +kernel
theorem dX12_choose_56 : decode cX12_choose 56 = .ok (.iload 5, 2) := by decide +kernel
theorem dX12_choose_58 : decode cX12_choose 58 = .ok (.iaload, 1) := by decide +kernel
theorem dX12_choose_59 : decode cX12_choose 59 = .ok (.iconst 4, 1) := by decide +kernel
theorem dX12_choose_60 : decode cX12_choose 60 = .ok (.if_icmp .ne 23, 3) := by decide +kernel
theorem dX12_choose_63 : decode cX12_choose 63 = .ok (.iload_n 3, 1) := by decide +kernel
theorem dX12_choose_64 : decode cX12_choose 64 = .ok (.aload_n 0, 1) := by decide +kernel
theorem dX12_choose_65 : decode cX12_choose 65 = .ok (.iload_n 1, 1) := by decide +kernel
theorem dX12_choose_66 : decode cX12_choose 66 = .ok (.iload 5, 2) := by decide +kernel
theorem dX12_choose_68 : decode cX12_choose 68 = .ok (.invokevirtual 419, 3) := by decide +kernel
theorem dX12_choose_71 : decode cX12_choose 71 = .ok (.if_icmp .ne 12, 3) := by decide +kernel
theorem dX12_choose_74 : decode cX12_choose 74 = .ok (.aload_n 0, 1) := by decide +kernel
theorem dX12_choose_75 : decode cX12_choose 75 = .ok (.iload 5, 2) := by decide +kernel
theorem dX12_choose_77 : decode cX12_choose 77 = .ok (.invokevirtual 374, 3) := by decide +kernel
theorem dX12_choose_80 : decode cX12_choose 80 = .ok (.ifCond .eq 5, 3) := by decide +kernel
theorem dX12_choose_83 : decode cX12_choose 83 = .ok (.iconst (-1), 1) := by decide +kernel
theorem dX12_choose_84 : decode cX12_choose 84 = .ok (.ireturn, 1) := by decide +kernel
theorem dX12_choose_85 : decode cX12_choose 85 = .ok (.aload_n 0, 1) := by decide +kernel
theorem dX12_choose_86 : decode cX12_choose 86 = .ok (.getfield 364, 3) := by decide +kernel
theorem dX12_choose_89 : decode cX12_choose 89 = .ok (.istore 8, 2) := by decide +kernel
theorem dX12_choose_91 : decode cX12_choose 91 = .ok (.aload_n 0, 1) := by decide +kernel
theorem dX12_choose_92 : decode cX12_choose 92 = .ok (.iload_n 1, 1) := by decide +kernel
theorem dX12_choose_93 : decode cX12_choose 93 = .ok (.iload_n 2, 1) := by decide +kernel
theorem dX12_choose_94 : decode cX12_choose 94 = .ok (.invokevirtual 406, 3) := by decide +kernel
theorem dX12_choose_97 : decode cX12_choose 97 = .ok (.aload_n 0, 1) := by decide +kernel
theorem dX12_choose_98 : decode cX12_choose 98 = .ok (.iload_n 1, 1) := by decide +kernel
theorem dX12_choose_99 : decode cX12_choose 99 = .ok (.iload 4, 2) := by decide +kernel
theorem dX12_choose_101 : decode cX12_choose 101 = .ok (.ifCond .ne 13, 3) := by decide +kernel
theorem dX12_choose_104 : decode cX12_choose 104 = .ok (.aload_n 0, 1) := by decide +kernel
theorem dX12_choose_105 : decode cX12_choose 105 = .ok (.getfield 32, 3) := by decide +kernel
theorem dX12_choose_108 : decode cX12_choose 108 = .ok (.iload 5, 2) := by decide +kernel
theorem dX12_choose_110 : decode cX12_choose 110 = .ok (.iaload, 1) := by decide +kernel
theorem dX12_choose_111 : decode cX12_choose 111 = .ok (.goto 10, 3) := by decide +kernel
theorem dX12_choose_114 : decode cX12_choose 114 = .ok (.aload_n 0, 1) := by decide +kernel
theorem dX12_choose_115 : decode cX12_choose 115 = .ok (.getfield 35, 3) := by decide +kernel
theorem dX12_choose_118 : decode cX12_choose 118 = .ok (.iload 5, 2) := by decide +kernel
theorem dX12_choose_120 : decode cX12_choose 120 = .ok (.iaload, 1) := by decide +kernel
theorem dX12_choose_121 : decode cX12_choose 121 = .ok (.lload 6, 2) := by decide +kernel
theorem dX12_choose_123 : decode cX12_choose 123 = .ok (.invokevirtual 403, 3) := by decide +kernel
theorem dX12_choose_126 : decode cX12_choose 126 = .ok (.aload_n 0, 1) := by decide +kernel
theorem dX12_choose_127 : decode cX12_choose 127 = .ok (.getfield 364, 3) := by decide +kernel
theorem dX12_choose_130 : decode cX12_choose 130 = .ok (.iload 8, 2) := by decide +kernel
theorem dX12_choose_132 : decode cX12_choose 132 = .ok (.isub, 1) := by decide +kernel
theorem dX12_choose_133 : decode cX12_choose 133 = .ok (.ireturn, 1) := by decide +kernel
theorem dX12_take_0 : decode cX12_take 0 = .ok (.aload_n 0, 1) := by decide +kernel
theorem dX12_take_1 : decode cX12_take 1 = .ok (.iload_n 1, 1) := by decide +kernel
theorem dX12_take_2 : decode cX12_take 2 = .ok (.iload_n 2, 1) := by decide +kernel
theorem dX12_take_3 : decode cX12_take 3 = .ok (.invokevirtual 416, 3) := by decide +kernel
theorem dX12_take_6 : decode cX12_take 6 = .ok (.ifCond .ne 5, 3) := by decide +kernel
theorem dX12_take_9 : decode cX12_take 9 = .ok (.iconst (-1), 1) := by decide +kernel
theorem dX12_take_10 : decode cX12_take 10 = .ok (.ireturn, 1) := by decide +kernel
theorem dX12_take_11 : decode cX12_take 11 = .ok (.aload_n 0, 1) := by decide +kernel
theorem dX12_take_12 : decode cX12_take 12 = .ok (.getfield 112, 3) := by decide +kernel
theorem dX12_take_15 : decode cX12_take 15 = .ok (.bipush 40, 2) := by decide +kernel
theorem dX12_take_17 : decode cX12_take 17 = .ok (.iload_n 1, 1) := by decide +kernel
theorem dX12_take_18 : decode cX12_take 18 = .ok (.imul, 1) := by decide +kernel
theorem dX12_take_19 : decode cX12_take 19 = .ok (.iload_n 2, 1) := by decide +kernel
theorem dX12_take_20 : decode cX12_take 20 = .ok (.iadd, 1) := by decide +kernel
theorem dX12_take_21 : decode cX12_take 21 = .ok (.iaload, 1) := by decide +kernel
theorem dX12_take_22 : decode cX12_take 22 = .ok (.istore 4, 2) := by decide +kernel
theorem dX12_take_24 : decode cX12_take 24 = .ok (.aload_n 0, 1) := by decide +kernel
theorem dX12_take_25 : decode cX12_take 25 = .ok (.getfield 115, 3) := by decide +kernel
theorem dX12_take_28 : decode cX12_take 28 = .ok (.bipush 40, 2) := by decide +kernel
theorem dX12_take_30 : decode cX12_take 30 = .ok (.iload_n 1, 1) := by decide +kernel
theorem dX12_take_31 : decode cX12_take 31 = .ok (.imul, 1) := by decide +kernel
theorem dX12_take_32 : decode cX12_take 32 = .ok (.iload_n 2, 1) := by decide +kernel
theorem dX12_take_33 : decode cX12_take 33 = .ok (.iadd, 1) := by decide +kernel
theorem dX12_take_34 : decode cX12_take 34 = .ok (.laload, 1) := by decide +kernel
theorem dX12_take_35 : decode cX12_take 35 = .ok (.lstore 5, 2) := by decide +kernel
theorem dX12_take_37 : decode cX12_take 37 = .ok (.aload_n 0, 1) := by decide +kernel
theorem dX12_take_38 : decode cX12_take 38 = .ok (.invokevirtual 400, 3) := by decide +kernel
theorem dX12_take_41 : decode cX12_take 41 = .ok (.aload_n 0, 1) := by decide +kernel
theorem dX12_take_42 : decode cX12_take 42 = .ok (.getfield 20, 3) := by decide +kernel
theorem dX12_take_45 : decode cX12_take 45 = .ok (.iload 4, 2) := by decide +kernel
theorem dX12_take_47 : decode cX12_take 47 = .ok (.iaload, 1) := by decide +kernel
theorem dX12_take_48 : decode cX12_take 48 = .ok (.bipush 7, 2) := by decide +kernel
theorem dX12_take_50 : decode cX12_take 50 = .ok (.if_icmp .ne 32, 3) := by decide +kernel
theorem dX12_take_53 : decode cX12_take 53 = .ok (.iload_n 3, 1) := by decide +kernel
theorem dX12_take_54 : decode cX12_take 54 = .ok (.aload_n 0, 1) := by decide +kernel
theorem dX12_take_55 : decode cX12_take 55 = .ok (.iload_n 1, 1) := by decide +kernel
theorem dX12_take_56 : decode cX12_take 56 = .ok (.iload 4, 2) := by decide +kernel
theorem dX12_take_58 : decode cX12_take 58 = .ok (.invokevirtual 419, 3) := by decide +kernel
theorem dX12_take_61 : decode cX12_take 61 = .ok (.if_icmp .ne 21, 3) := by decide +kernel
theorem dX12_take_64 : decode cX12_take 64 = .ok (.aload_n 0, 1) := by decide +kernel
theorem dX12_take_65 : decode cX12_take 65 = .ok (.iload 4, 2) := by decide +kernel
theorem dX12_take_67 : decode cX12_take 67 = .ok (.invokevirtual 374, 3) := by decide +kernel
theorem dX12_take_70 : decode cX12_take 70 = .ok (.ifCond .ne 12, 3) := by decide +kernel
theorem dX12_take_73 : decode cX12_take 73 = .ok (.aload_n 0, 1) := by decide +kernel
theorem dX12_take_74 : decode cX12_take 74 = .ok (.iload 4, 2) := by decide +kernel
theorem dX12_take_76 : decode cX12_take 76 = .ok (.invokevirtual 348, 3) := by decide +kernel
theorem dX12_take_79 : decode cX12_take 79 = .ok (.ifCond .ne 5, 3) := by decide +kernel
theorem dX12_take_82 : decode cX12_take 82 = .ok (.iconst (-1), 1) := by decide +kernel
theorem dX12_take_83 : decode cX12_take 83 = .ok (.ireturn, 1) := by decide +kernel
theorem dX12_take_84 : decode cX12_take 84 = .ok (.aload_n 0, 1) := by decide +kernel
theorem dX12_take_85 : decode cX12_take 85 = .ok (.getfield 364, 3) := by decide +kernel
theorem dX12_take_88 : decode cX12_take 88 = .ok (.istore 7, 2) := by decide +kernel
theorem dX12_take_90 : decode cX12_take 90 = .ok (.aload_n 0, 1) := by decide +kernel
theorem dX12_take_91 : decode cX12_take 91 = .ok (.iload_n 1, 1) := by decide +kernel
theorem dX12_take_92 : decode cX12_take 92 = .ok (.iload_n 2, 1) := by decide +kernel
theorem dX12_take_93 : decode cX12_take 93 = .ok (.invokevirtual 406, 3) := by decide +kernel
theorem dX12_take_96 : decode cX12_take 96 = .ok (.aload_n 0, 1) := by decide +kernel
theorem dX12_take_97 : decode cX12_take 97 = .ok (.iload_n 1, 1) := by decide +kernel
theorem dX12_take_98 : decode cX12_take 98 = .ok (.aload_n 0, 1) := by decide +kernel
theorem dX12_take_99 : decode cX12_take 99 = .ok (.getfield 32, 3) := by decide +kernel
theorem dX12_take_102 : decode cX12_take 102 = .ok (.iload 4, 2) := by decide +kernel
theorem dX12_take_104 : decode cX12_take 104 = .ok (.iaload, 1) := by decide +kernel
theorem dX12_take_105 : decode cX12_take 105 = .ok (.lload 5, 2) := by decide +kernel
theorem dX12_take_107 : decode cX12_take 107 = .ok (.invokevirtual 403, 3) := by decide +kernel
theorem dX12_take_110 : decode cX12_take 110 = .ok (.aload_n 0, 1) := by decide +kernel
theorem dX12_take_111 : decode cX12_take 111 = .ok (.getfield 364, 3) := by decide +kernel
theorem dX12_take_114 : decode cX12_take 114 = .ok (.iload 7, 2) := by decide +kernel
theorem dX12_take_116 : decode cX12_take 116 = .ok (.isub, 1) := by decide +kernel
theorem dX12_take_117 : decode cX12_take 117 = .ok (.ireturn, 1) := by decide +kernel
theorem dX12_payment_0 : decode cX12_payment 0 = .ok (.iload_n 1, 1) := by decide +kernel
theorem dX12_payment_1 : decode cX12_payment 1 = .ok (.i2l, 1) := by decide +kernel
theorem dX12_payment_2 : decode cX12_payment 2 = .ok (.lconst 0, 1) := by decide +kernel
theorem dX12_payment_3 : decode cX12_payment 3 = .ok (.aload_n 0, 1) := by decide +kernel
theorem dX12_payment_4 : decode cX12_payment 4 = .ok (.getfield 364, 3) := by decide +kernel
theorem dX12_payment_7 : decode cX12_payment 7 = .ok (.iconst 1, 1) := by decide +kernel
theorem dX12_payment_8 : decode cX12_payment 8 = .ok (.isub, 1) := by decide +kernel
theorem dX12_payment_9 : decode cX12_payment 9 = .ok (.i2l, 1) := by decide +kernel
theorem dX12_payment_10 : decode cX12_payment 10 = .ok (.invokestatic 245, 3) := by decide +kernel
theorem dX12_payment_13 : decode cX12_payment 13 = .ok (.ifCond .ne 7, 3) := by decide +kernel
theorem dX12_payment_16 : decode cX12_payment 16 = .ok (.ldc_w 425, 3) := by decide +kernel
theorem dX12_payment_19 : decode cX12_payment 19 = .ok (.ireturn, 1) := by decide +kernel
theorem dX12_payment_20 : decode cX12_payment 20 = .ok (.iload_n 2, 1) := by decide +kernel
theorem dX12_payment_21 : decode cX12_payment 21 = .ok (.tableswitch 59 0 3 #[31, 38, 45, 52], 31) := by decide +kernel
theorem dX12_payment_52 : decode cX12_payment 52 = .ok (.aload_n 0, 1) := by decide +kernel
theorem dX12_payment_53 : decode cX12_payment 53 = .ok (.getfield 118, 3) := by decide +kernel
theorem dX12_payment_56 : decode cX12_payment 56 = .ok (.iload_n 1, 1) := by decide +kernel
theorem dX12_payment_57 : decode cX12_payment 57 = .ok (.iaload, 1) := by decide +kernel
theorem dX12_payment_58 : decode cX12_payment 58 = .ok (.ireturn, 1) := by decide +kernel
theorem dX12_payment_59 : decode cX12_payment 59 = .ok (.aload_n 0, 1) := by decide +kernel
theorem dX12_payment_60 : decode cX12_payment 60 = .ok (.getfield 121, 3) := by decide +kernel
theorem dX12_payment_63 : decode cX12_payment 63 = .ok (.iload_n 1, 1) := by decide +kernel
theorem dX12_payment_64 : decode cX12_payment 64 = .ok (.iaload, 1) := by decide +kernel
theorem dX12_payment_65 : decode cX12_payment 65 = .ok (.ireturn, 1) := by decide +kernel
theorem dX12_payment_66 : decode cX12_payment 66 = .ok (.aload_n 0, 1) := by decide +kernel
theorem dX12_payment_67 : decode cX12_payment 67 = .ok (.getfield 124, 3) := by decide +kernel
theorem dX12_payment_70 : decode cX12_payment 70 = .ok (.iload_n 1, 1) := by decide +kernel
theorem dX12_payment_71 : decode cX12_payment 71 = .ok (.iaload, 1) := by decide +kernel
theorem dX12_payment_72 : decode cX12_payment 72 = .ok (.ireturn, 1) := by decide +kernel
theorem dX12_payment_73 : decode cX12_payment 73 = .ok (.aload_n 0, 1) := by decide +kernel
theorem dX12_payment_74 : decode cX12_payment 74 = .ok (.getfield 127, 3) := by decide +kernel
theorem dX12_payment_77 : decode cX12_payment 77 = .ok (.iload_n 1, 1) := by decide +kernel
theorem dX12_payment_78 : decode cX12_payment 78 = .ok (.iaload, 1) := by decide +kernel
theorem dX12_payment_79 : decode cX12_payment 79 = .ok (.ireturn, 1) := by decide +kernel
theorem dX12_payment_80 : decode cX12_payment 80 = .ok (.ldc_w 425, 3) := by decide +kernel
theorem dX12_payment_83 : decode cX12_payment 83 = .ok (.ireturn, 1) := by decide +kernel
theorem dX12_got_0 : decode cX12_got 0 = .ok (.aload_n 0, 1) := by decide +kernel
theorem dX12_got_1 : decode cX12_got 1 = .ok (.iload_n 1, 1) := by decide +kernel
theorem dX12_got_2 : decode cX12_got 2 = .ok (.invokevirtual 410, 3) := by decide +kernel
theorem dX12_got_5 : decode cX12_got 5 = .ok (.ifCond .eq 12, 3) := by decide +kernel
theorem dX12_got_8 : decode cX12_got 8 = .ok (.aload_n 0, 1) := by decide +kernel
theorem dX12_got_9 : decode cX12_got 9 = .ok (.getfield 106, 3) := by decide +kernel
theorem dX12_got_12 : decode cX12_got 12 = .ok (.iload_n 1, 1) := by decide +kernel
theorem dX12_got_13 : decode cX12_got 13 = .ok (.laload, 1) := by decide +kernel
theorem dX12_got_14 : decode cX12_got 14 = .ok (.goto 4, 3) := by decide +kernel
theorem dX12_got_17 : decode cX12_got 17 = .ok (.lconst 0, 1) := by decide +kernel
theorem dX12_got_18 : decode cX12_got 18 = .ok (.lreturn, 1) := by decide +kernel
theorem dX12_net_0 : decode cX12_net 0 = .ok (.iload_n 1, 1) := by decide +kernel
theorem dX12_net_1 : decode cX12_net 1 = .ok (.i2l, 1) := by decide +kernel
theorem dX12_net_2 : decode cX12_net 2 = .ok (.lconst 0, 1) := by decide +kernel
theorem dX12_net_3 : decode cX12_net 3 = .ok (.ldc2_w 256, 3) := by decide +kernel
theorem dX12_net_6 : decode cX12_net 6 = .ok (.invokestatic 245, 3) := by decide +kernel
theorem dX12_net_9 : decode cX12_net 9 = .ok (.ifCond .ne 5, 3) := by decide +kernel
theorem dX12_net_12 : decode cX12_net 12 = .ok (.iconst (-1), 1) := by decide +kernel
theorem dX12_net_13 : decode cX12_net 13 = .ok (.ireturn, 1) := by decide +kernel
theorem dX12_net_14 : decode cX12_net 14 = .ok (.iconst 0, 1) := by decide +kernel
theorem dX12_net_15 : decode cX12_net 15 = .ok (.istore_n 2, 1) := by decide +kernel
theorem dX12_net_16 : decode cX12_net 16 = .ok (.iload_n 2, 1) := by decide +kernel
theorem dX12_net_17 : decode cX12_net 17 = .ok (.bipush 8, 2) := by decide +kernel
theorem dX12_net_19 : decode cX12_net 19 = .ok (.if_icmp .ge 16, 3) := by decide +kernel
theorem dX12_net_22 : decode cX12_net 22 = .ok (.aload_n 0, 1) := by decide +kernel
theorem dX12_net_23 : decode cX12_net 23 = .ok (.getfield 145, 3) := by decide +kernel
theorem dX12_net_26 : decode cX12_net 26 = .ok (.iload_n 2, 1) := by decide +kernel
theorem dX12_net_27 : decode cX12_net 27 = .ok (.lconst 0, 1) := by decide +kernel
theorem dX12_net_28 : decode cX12_net 28 = .ok (.lastore, 1) := by decide +kernel
theorem dX12_net_29 : decode cX12_net 29 = .ok (.iinc 2 1, 3) := by decide +kernel
theorem dX12_net_32 : decode cX12_net 32 = .ok (.goto (-16), 3) := by decide +kernel
theorem dX12_net_35 : decode cX12_net 35 = .ok (.iconst 0, 1) := by decide +kernel
theorem dX12_net_36 : decode cX12_net 36 = .ok (.istore_n 2, 1) := by decide +kernel
theorem dX12_net_37 : decode cX12_net 37 = .ok (.iload_n 2, 1) := by decide +kernel
theorem dX12_net_38 : decode cX12_net 38 = .ok (.aload_n 0, 1) := by decide +kernel
theorem dX12_net_39 : decode cX12_net 39 = .ok (.getfield 364, 3) := by decide +kernel
theorem dX12_net_42 : decode cX12_net 42 = .ok (.if_icmp .ge 74, 3) := by decide +kernel
theorem dX12_net_45 : decode cX12_net 45 = .ok (.aload_n 0, 1) := by decide +kernel
theorem dX12_net_46 : decode cX12_net 46 = .ok (.getfield 121, 3) := by decide +kernel
theorem dX12_net_49 : decode cX12_net 49 = .ok (.iload_n 2, 1) := by decide +kernel
theorem dX12_net_50 : decode cX12_net 50 = .ok (.iaload, 1) := by decide +kernel
theorem dX12_net_51 : decode cX12_net 51 = .ok (.iload_n 1, 1) := by decide +kernel
theorem dX12_net_52 : decode cX12_net 52 = .ok (.if_icmp .eq 6, 3) := by decide +kernel
theorem dX12_net_55 : decode cX12_net 55 = .ok (.goto 55, 3) := by decide +kernel
theorem dX12_net_58 : decode cX12_net 58 = .ok (.aload_n 0, 1) := by decide +kernel
theorem dX12_net_59 : decode cX12_net 59 = .ok (.getfield 145, 3) := by decide +kernel
theorem dX12_net_62 : decode cX12_net 62 = .ok (.aload_n 0, 1) := by decide +kernel
theorem dX12_net_63 : decode cX12_net 63 = .ok (.getfield 100, 3) := by decide +kernel
theorem dX12_net_66 : decode cX12_net 66 = .ok (.aload_n 0, 1) := by decide +kernel
theorem dX12_net_67 : decode cX12_net 67 = .ok (.getfield 118, 3) := by decide +kernel
theorem dX12_net_70 : decode cX12_net 70 = .ok (.iload_n 2, 1) := by decide +kernel
theorem dX12_net_71 : decode cX12_net 71 = .ok (.iaload, 1) := by decide +kernel
theorem dX12_net_72 : decode cX12_net 72 = .ok (.iaload, 1) := by decide +kernel
theorem dX12_net_73 : decode cX12_net 73 = .ok (.dup2, 1) := by decide +kernel
theorem dX12_net_74 : decode cX12_net 74 = .ok (.laload, 1) := by decide +kernel
theorem dX12_net_75 : decode cX12_net 75 = .ok (.aload_n 0, 1) := by decide +kernel
theorem dX12_net_76 : decode cX12_net 76 = .ok (.getfield 124, 3) := by decide +kernel
theorem dX12_net_79 : decode cX12_net 79 = .ok (.iload_n 2, 1) := by decide +kernel
theorem dX12_net_80 : decode cX12_net 80 = .ok (.iaload, 1) := by decide +kernel
theorem dX12_net_81 : decode cX12_net 81 = .ok (.i2l, 1) := by decide +kernel
theorem dX12_net_82 : decode cX12_net 82 = .ok (.ladd, 1) := by decide +kernel
theorem dX12_net_83 : decode cX12_net 83 = .ok (.lastore, 1) := by decide +kernel
theorem dX12_net_84 : decode cX12_net 84 = .ok (.aload_n 0, 1) := by decide +kernel
theorem dX12_net_85 : decode cX12_net 85 = .ok (.getfield 145, 3) := by decide +kernel
theorem dX12_net_88 : decode cX12_net 88 = .ok (.aload_n 0, 1) := by decide +kernel
theorem dX12_net_89 : decode cX12_net 89 = .ok (.getfield 103, 3) := by decide +kernel
theorem dX12_net_92 : decode cX12_net 92 = .ok (.aload_n 0, 1) := by decide +kernel
theorem dX12_net_93 : decode cX12_net 93 = .ok (.getfield 118, 3) := by decide +kernel
theorem dX12_net_96 : decode cX12_net 96 = .ok (.iload_n 2, 1) := by decide +kernel
theorem dX12_net_97 : decode cX12_net 97 = .ok (.iaload, 1) := by decide +kernel
theorem dX12_net_98 : decode cX12_net 98 = .ok (.iaload, 1) := by decide +kernel
theorem dX12_net_99 : decode cX12_net 99 = .ok (.dup2, 1) := by decide +kernel
theorem dX12_net_100 : decode cX12_net 100 = .ok (.laload, 1) := by decide +kernel
theorem dX12_net_101 : decode cX12_net 101 = .ok (.aload_n 0, 1) := by decide +kernel
theorem dX12_net_102 : decode cX12_net 102 = .ok (.getfield 124, 3) := by decide +kernel
theorem dX12_net_105 : decode cX12_net 105 = .ok (.iload_n 2, 1) := by decide +kernel
theorem dX12_net_106 : decode cX12_net 106 = .ok (.iaload, 1) := by decide +kernel
theorem dX12_net_107 : decode cX12_net 107 = .ok (.i2l, 1) := by decide +kernel
theorem dX12_net_108 : decode cX12_net 108 = .ok (.lsub, 1) := by decide +kernel
theorem dX12_net_109 : decode cX12_net 109 = .ok (.lastore, 1) := by decide +kernel
theorem dX12_net_110 : decode cX12_net 110 = .ok (.iinc 2 1, 3) := by decide +kernel
theorem dX12_net_113 : decode cX12_net 113 = .ok (.goto (-76), 3) := by decide +kernel
theorem dX12_net_116 : decode cX12_net 116 = .ok (.iconst 0, 1) := by decide +kernel
theorem dX12_net_117 : decode cX12_net 117 = .ok (.istore_n 2, 1) := by decide +kernel
theorem dX12_net_118 : decode cX12_net 118 = .ok (.iload_n 2, 1) := by decide +kernel
theorem dX12_net_119 : decode cX12_net 119 = .ok (.bipush 8, 2) := by decide +kernel
theorem dX12_net_121 : decode cX12_net 121 = .ok (.if_icmp .ge 21, 3) := by decide +kernel
theorem dX12_net_124 : decode cX12_net 124 = .ok (.aload_n 0, 1) := by decide +kernel
theorem dX12_net_125 : decode cX12_net 125 = .ok (.getfield 148, 3) := by decide +kernel
theorem dX12_net_128 : decode cX12_net 128 = .ok (.iload_n 2, 1) := by decide +kernel
theorem dX12_net_129 : decode cX12_net 129 = .ok (.aload_n 0, 1) := by decide +kernel
theorem dX12_net_130 : decode cX12_net 130 = .ok (.getfield 145, 3) := by decide +kernel
theorem dX12_net_133 : decode cX12_net 133 = .ok (.iload_n 2, 1) := by decide +kernel
theorem dX12_net_134 : decode cX12_net 134 = .ok (.laload, 1) := by decide +kernel
theorem dX12_net_135 : decode cX12_net 135 = .ok (.lastore, 1) := by decide +kernel
theorem dX12_net_136 : decode cX12_net 136 = .ok (.iinc 2 1, 3) := by decide +kernel
theorem dX12_net_139 : decode cX12_net 139 = .ok (.goto (-21), 3) := by decide +kernel
theorem dX12_net_142 : decode cX12_net 142 = .ok (.aload_n 0, 1) := by decide +kernel
theorem dX12_net_143 : decode cX12_net 143 = .ok (.iconst 1, 1) := by decide +kernel
theorem dX12_net_144 : decode cX12_net 144 = .ok (.putfield 426, 3) := by decide +kernel
theorem dX12_net_147 : decode cX12_net 147 = .ok (.aload_n 0, 1) := by decide +kernel
theorem dX12_net_148 : decode cX12_net 148 = .ok (.iconst 0, 1) := by decide +kernel
theorem dX12_net_149 : decode cX12_net 149 = .ok (.putfield 430, 3) := by decide +kernel
theorem dX12_net_152 : decode cX12_net 152 = .ok (.iconst 0, 1) := by decide +kernel
theorem dX12_net_153 : decode cX12_net 153 = .ok (.istore_n 2, 1) := by decide +kernel
theorem dX12_net_154 : decode cX12_net 154 = .ok (.iconst 0, 1) := by decide +kernel
theorem dX12_net_155 : decode cX12_net 155 = .ok (.istore_n 3, 1) := by decide +kernel
theorem dX12_net_156 : decode cX12_net 156 = .ok (.iload_n 2, 1) := by decide +kernel
theorem dX12_net_157 : decode cX12_net 157 = .ok (.bipush 8, 2) := by decide +kernel
theorem dX12_net_159 : decode cX12_net 159 = .ok (.if_icmp .ge 144, 3) := by decide +kernel
theorem dX12_net_162 : decode cX12_net 162 = .ok (.iload_n 3, 1) := by decide +kernel
theorem dX12_net_163 : decode cX12_net 163 = .ok (.bipush 8, 2) := by decide +kernel
theorem dX12_net_165 : decode cX12_net 165 = .ok (.if_icmp .ge 138, 3) := by decide +kernel
theorem dX12_net_168 : decode cX12_net 168 = .ok (.aload_n 0, 1) := by decide +kernel
theorem dX12_net_169 : decode cX12_net 169 = .ok (.getfield 148, 3) := by decide +kernel
theorem dX12_net_172 : decode cX12_net 172 = .ok (.iload_n 2, 1) := by decide +kernel
theorem dX12_net_173 : decode cX12_net 173 = .ok (.laload, 1) := by decide +kernel
theorem dX12_net_174 : decode cX12_net 174 = .ok (.lconst 0, 1) := by decide +kernel
theorem dX12_net_175 : decode cX12_net 175 = .ok (.lcmp, 1) := by decide +kernel
theorem dX12_net_176 : decode cX12_net 176 = .ok (.ifCond .lt 9, 3) := by decide +kernel
theorem dX12_net_179 : decode cX12_net 179 = .ok (.iinc 2 1, 3) := by decide +kernel
theorem dX12_net_182 : decode cX12_net 182 = .ok (.goto (-26), 3) := by decide +kernel
theorem dX12_net_185 : decode cX12_net 185 = .ok (.aload_n 0, 1) := by decide +kernel
theorem dX12_net_186 : decode cX12_net 186 = .ok (.getfield 148, 3) := by decide +kernel
theorem dX12_net_189 : decode cX12_net 189 = .ok (.iload_n 3, 1) := by decide +kernel
theorem dX12_net_190 : decode cX12_net 190 = .ok (.laload, 1) := by decide +kernel
theorem dX12_net_191 : decode cX12_net 191 = .ok (.lconst 0, 1) := by decide +kernel
theorem dX12_net_192 : decode cX12_net 192 = .ok (.lcmp, 1) := by decide +kernel
theorem dX12_net_193 : decode cX12_net 193 = .ok (.ifCond .gt 9, 3) := by decide +kernel
theorem dX12_net_196 : decode cX12_net 196 = .ok (.iinc 3 1, 3) := by decide +kernel
theorem dX12_net_199 : decode cX12_net 199 = .ok (.goto (-43), 3) := by decide +kernel
theorem dX12_net_202 : decode cX12_net 202 = .ok (.aload_n 0, 1) := by decide +kernel
theorem dX12_net_203 : decode cX12_net 203 = .ok (.getfield 148, 3) := by decide +kernel
theorem dX12_net_206 : decode cX12_net 206 = .ok (.iload_n 2, 1) := by decide +kernel
theorem dX12_net_207 : decode cX12_net 207 = .ok (.laload, 1) := by decide +kernel
theorem dX12_net_208 : decode cX12_net 208 = .ok (.lneg, 1) := by decide +kernel
theorem dX12_net_209 : decode cX12_net 209 = .ok (.aload_n 0, 1) := by decide +kernel
theorem dX12_net_210 : decode cX12_net 210 = .ok (.getfield 148, 3) := by decide +kernel
theorem dX12_net_213 : decode cX12_net 213 = .ok (.iload_n 3, 1) := by decide +kernel
theorem dX12_net_214 : decode cX12_net 214 = .ok (.laload, 1) := by decide +kernel
theorem dX12_net_215 : decode cX12_net 215 = .ok (.lcmp, 1) := by decide +kernel
theorem dX12_net_216 : decode cX12_net 216 = .ok (.ifCond .ge 13, 3) := by decide +kernel
theorem dX12_net_219 : decode cX12_net 219 = .ok (.aload_n 0, 1) := by decide +kernel
theorem dX12_net_220 : decode cX12_net 220 = .ok (.getfield 148, 3) := by decide +kernel
theorem dX12_net_223 : decode cX12_net 223 = .ok (.iload_n 2, 1) := by decide +kernel
theorem dX12_net_224 : decode cX12_net 224 = .ok (.laload, 1) := by decide +kernel
theorem dX12_net_225 : decode cX12_net 225 = .ok (.lneg, 1) := by decide +kernel
theorem dX12_net_226 : decode cX12_net 226 = .ok (.goto 9, 3) := by decide +kernel
theorem dX12_net_229 : decode cX12_net 229 = .ok (.aload_n 0, 1) := by decide +kernel
theorem dX12_net_230 : decode cX12_net 230 = .ok (.getfield 148, 3) := by decide +kernel
theorem dX12_net_233 : decode cX12_net 233 = .ok (.iload_n 3, 1) := by decide +kernel
theorem dX12_net_234 : decode cX12_net 234 = .ok (.laload, 1) := by decide +kernel
theorem dX12_net_235 : decode cX12_net 235 = .ok (.lstore 4, 2) := by decide +kernel
theorem dX12_net_237 : decode cX12_net 237 = .ok (.aload_n 0, 1) := by decide +kernel
theorem dX12_net_238 : decode cX12_net 238 = .ok (.getfield 136, 3) := by decide +kernel
theorem dX12_net_241 : decode cX12_net 241 = .ok (.aload_n 0, 1) := by decide +kernel
theorem dX12_net_242 : decode cX12_net 242 = .ok (.getfield 430, 3) := by decide +kernel
theorem dX12_net_245 : decode cX12_net 245 = .ok (.iload_n 2, 1) := by decide +kernel
theorem dX12_net_246 : decode cX12_net 246 = .ok (.iastore, 1) := by decide +kernel
theorem dX12_net_247 : decode cX12_net 247 = .ok (.aload_n 0, 1) := by decide +kernel
theorem dX12_net_248 : decode cX12_net 248 = .ok (.getfield 139, 3) := by decide +kernel
theorem dX12_net_251 : decode cX12_net 251 = .ok (.aload_n 0, 1) := by decide +kernel
theorem dX12_net_252 : decode cX12_net 252 = .ok (.getfield 430, 3) := by decide +kernel
theorem dX12_net_255 : decode cX12_net 255 = .ok (.iload_n 3, 1) := by decide +kernel
theorem dX12_net_256 : decode cX12_net 256 = .ok (.iastore, 1) := by decide +kernel
theorem dX12_net_257 : decode cX12_net 257 = .ok (.aload_n 0, 1) := by decide +kernel
theorem dX12_net_258 : decode cX12_net 258 = .ok (.getfield 142, 3) := by decide +kernel
theorem dX12_net_261 : decode cX12_net 261 = .ok (.aload_n 0, 1) := by decide +kernel
theorem dX12_net_262 : decode cX12_net 262 = .ok (.getfield 430, 3) := by decide +kernel
theorem dX12_net_265 : decode cX12_net 265 = .ok (.lload 4, 2) := by decide +kernel
theorem dX12_net_267 : decode cX12_net 267 = .ok (.lastore, 1) := by decide +kernel
theorem dX12_net_268 : decode cX12_net 268 = .ok (.aload_n 0, 1) := by decide +kernel
theorem dX12_net_269 : decode cX12_net 269 = .ok (.getfield 148, 3) := by decide +kernel
theorem dX12_net_272 : decode cX12_net 272 = .ok (.iload_n 2, 1) := by decide +kernel
theorem dX12_net_273 : decode cX12_net 273 = .ok (.dup2, 1) := by decide +kernel
theorem dX12_net_274 : decode cX12_net 274 = .ok (.laload, 1) := by decide +kernel
theorem dX12_net_275 : decode cX12_net 275 = .ok (.lload 4, 2) := by decide +kernel
theorem dX12_net_277 : decode cX12_net 277 = .ok (.ladd, 1) := by decide +kernel
theorem dX12_net_278 : decode cX12_net 278 = .ok (.lastore, 1) := by decide +kernel
theorem dX12_net_279 : decode cX12_net 279 = .ok (.aload_n 0, 1) := by decide +kernel
theorem dX12_net_280 : decode cX12_net 280 = .ok (.getfield 148, 3) := by decide +kernel
theorem dX12_net_283 : decode cX12_net 283 = .ok (.iload_n 3, 1) := by decide +kernel
theorem dX12_net_284 : decode cX12_net 284 = .ok (.dup2, 1) := by decide +kernel
theorem dX12_net_285 : decode cX12_net 285 = .ok (.laload, 1) := by decide +kernel
theorem dX12_net_286 : decode cX12_net 286 = .ok (.lload 4, 2) := by decide +kernel
theorem dX12_net_288 : decode cX12_net 288 = .ok (.lsub, 1) := by decide +kernel
theorem dX12_net_289 : decode cX12_net 289 = .ok (.lastore, 1) := by decide +kernel
theorem dX12_net_290 : decode cX12_net 290 = .ok (.aload_n 0, 1) := by decide +kernel
theorem dX12_net_291 : decode cX12_net 291 = .ok (.dup, 1) := by decide +kernel
theorem dX12_net_292 : decode cX12_net 292 = .ok (.getfield 430, 3) := by decide +kernel
theorem dX12_net_295 : decode cX12_net 295 = .ok (.iconst 1, 1) := by decide +kernel
theorem dX12_net_296 : decode cX12_net 296 = .ok (.iadd, 1) := by decide +kernel
theorem dX12_net_297 : decode cX12_net 297 = .ok (.putfield 430, 3) := by decide +kernel
theorem dX12_net_300 : decode cX12_net 300 = .ok (.goto (-144), 3) := by decide +kernel
theorem dX12_net_303 : decode cX12_net 303 = .ok (.aload_n 0, 1) := by decide +kernel
theorem dX12_net_304 : decode cX12_net 304 = .ok (.getfield 430, 3) := by decide +kernel
theorem dX12_net_307 : decode cX12_net 307 = .ok (.ireturn, 1) := by decide +kernel
theorem dX12_netted_0 : decode cX12_netted 0 = .ok (.aload_n 0, 1) := by decide +kernel
theorem dX12_netted_1 : decode cX12_netted 1 = .ok (.getfield 426, 3) := by decide +kernel
theorem dX12_netted_4 : decode cX12_netted 4 = .ok (.ifCond .ne 7, 3) := by decide +kernel
theorem dX12_netted_7 : decode cX12_netted 7 = .ok (.ldc2_w 433, 3) := by decide +kernel
theorem dX12_netted_10 : decode cX12_netted 10 = .ok (.lreturn, 1) := by decide +kernel
theorem dX12_netted_11 : decode cX12_netted 11 = .ok (.iload_n 2, 1) := by decide +kernel
theorem dX12_netted_12 : decode cX12_netted 12 = .ok (.i2l, 1) := by decide +kernel
theorem dX12_netted_13 : decode cX12_netted 13 = .ok (.ldc2_w 435, 3) := by decide +kernel
theorem dX12_netted_16 : decode cX12_netted 16 = .ok (.ldc2_w 437, 3) := by decide +kernel
theorem dX12_netted_19 : decode cX12_netted 19 = .ok (.invokestatic 245, 3) := by decide +kernel
theorem dX12_netted_22 : decode cX12_netted 22 = .ok (.ifCond .eq 13, 3) := by decide +kernel
theorem dX12_netted_25 : decode cX12_netted 25 = .ok (.aload_n 0, 1) := by decide +kernel
theorem dX12_netted_26 : decode cX12_netted 26 = .ok (.getfield 145, 3) := by decide +kernel
theorem dX12_netted_29 : decode cX12_netted 29 = .ok (.iload_n 2, 1) := by decide +kernel
theorem dX12_netted_30 : decode cX12_netted 30 = .ok (.bipush 10, 2) := by decide +kernel
theorem dX12_netted_32 : decode cX12_netted 32 = .ok (.isub, 1) := by decide +kernel
theorem dX12_netted_33 : decode cX12_netted 33 = .ok (.laload, 1) := by decide +kernel
theorem dX12_netted_34 : decode cX12_netted 34 = .ok (.lreturn, 1) := by decide +kernel
theorem dX12_netted_35 : decode cX12_netted 35 = .ok (.iload_n 1, 1) := by decide +kernel
theorem dX12_netted_36 : decode cX12_netted 36 = .ok (.i2l, 1) := by decide +kernel
theorem dX12_netted_37 : decode cX12_netted 37 = .ok (.lconst 0, 1) := by decide +kernel
theorem dX12_netted_38 : decode cX12_netted 38 = .ok (.aload_n 0, 1) := by decide +kernel
theorem dX12_netted_39 : decode cX12_netted 39 = .ok (.getfield 430, 3) := by decide +kernel
theorem dX12_netted_42 : decode cX12_netted 42 = .ok (.iconst 1, 1) := by decide +kernel
theorem dX12_netted_43 : decode cX12_netted 43 = .ok (.isub, 1) := by decide +kernel
theorem dX12_netted_44 : decode cX12_netted 44 = .ok (.i2l, 1) := by decide +kernel
theorem dX12_netted_45 : decode cX12_netted 45 = .ok (.invokestatic 245, 3) := by decide +kernel
theorem dX12_netted_48 : decode cX12_netted 48 = .ok (.ifCond .ne 7, 3) := by decide +kernel
theorem dX12_netted_51 : decode cX12_netted 51 = .ok (.ldc2_w 433, 3) := by decide +kernel
theorem dX12_netted_54 : decode cX12_netted 54 = .ok (.lreturn, 1) := by decide +kernel
theorem dX12_netted_55 : decode cX12_netted 55 = .ok (.iload_n 2, 1) := by decide +kernel
theorem dX12_netted_56 : decode cX12_netted 56 = .ok (.ifCond .ne 13, 3) := by decide +kernel
theorem dX12_netted_59 : decode cX12_netted 59 = .ok (.aload_n 0, 1) := by decide +kernel
theorem dX12_netted_60 : decode cX12_netted 60 = .ok (.getfield 136, 3) := by decide +kernel
theorem dX12_netted_63 : decode cX12_netted 63 = .ok (.iload_n 1, 1) := by decide +kernel
theorem dX12_netted_64 : decode cX12_netted 64 = .ok (.iaload, 1) := by decide +kernel
theorem dX12_netted_65 : decode cX12_netted 65 = .ok (.i2l, 1) := by decide +kernel
theorem dX12_netted_66 : decode cX12_netted 66 = .ok (.goto 35, 3) := by decide +kernel
theorem dX12_netted_69 : decode cX12_netted 69 = .ok (.iload_n 2, 1) := by decide +kernel
theorem dX12_netted_70 : decode cX12_netted 70 = .ok (.iconst 1, 1) := by decide +kernel
theorem dX12_netted_71 : decode cX12_netted 71 = .ok (.if_icmp .ne 13, 3) := by decide +kernel
theorem dX12_netted_74 : decode cX12_netted 74 = .ok (.aload_n 0, 1) := by decide +kernel
theorem dX12_netted_75 : decode cX12_netted 75 = .ok (.getfield 139, 3) := by decide +kernel
theorem dX12_netted_78 : decode cX12_netted 78 = .ok (.iload_n 1, 1) := by decide +kernel
theorem dX12_netted_79 : decode cX12_netted 79 = .ok (.iaload, 1) := by decide +kernel
theorem dX12_netted_80 : decode cX12_netted 80 = .ok (.i2l, 1) := by decide +kernel
theorem dX12_netted_81 : decode cX12_netted 81 = .ok (.goto 20, 3) := by decide +kernel
theorem dX12_netted_84 : decode cX12_netted 84 = .ok (.iload_n 2, 1) := by decide +kernel
theorem dX12_netted_85 : decode cX12_netted 85 = .ok (.iconst 2, 1) := by decide +kernel
theorem dX12_netted_86 : decode cX12_netted 86 = .ok (.if_icmp .ne 12, 3) := by decide +kernel
theorem dX12_netted_89 : decode cX12_netted 89 = .ok (.aload_n 0, 1) := by decide +kernel
theorem dX12_netted_90 : decode cX12_netted 90 = .ok (.getfield 142, 3) := by decide +kernel
theorem dX12_netted_93 : decode cX12_netted 93 = .ok (.iload_n 1, 1) := by decide +kernel
theorem dX12_netted_94 : decode cX12_netted 94 = .ok (.laload, 1) := by decide +kernel
theorem dX12_netted_95 : decode cX12_netted 95 = .ok (.goto 6, 3) := by decide +kernel
theorem dX12_netted_98 : decode cX12_netted 98 = .ok (.ldc2_w 433, 3) := by decide +kernel
theorem dX12_netted_101 : decode cX12_netted 101 = .ok (.lreturn, 1) := by decide +kernel
theorem dX12_ways_0 : decode cX12_ways 0 = .ok (.iload_n 1, 1) := by decide +kernel
theorem dX12_ways_1 : decode cX12_ways 1 = .ok (.i2l, 1) := by decide +kernel
theorem dX12_ways_2 : decode cX12_ways 2 = .ok (.lconst 1, 1) := by decide +kernel
theorem dX12_ways_3 : decode cX12_ways 3 = .ok (.ldc2_w 439, 3) := by decide +kernel
theorem dX12_ways_6 : decode cX12_ways 6 = .ok (.invokestatic 245, 3) := by decide +kernel
theorem dX12_ways_9 : decode cX12_ways 9 = .ok (.ifCond .ne 5, 3) := by decide +kernel
theorem dX12_ways_12 : decode cX12_ways 12 = .ok (.iconst 0, 1) := by decide +kernel
theorem dX12_ways_13 : decode cX12_ways 13 = .ok (.ireturn, 1) := by decide +kernel
theorem dX12_ways_14 : decode cX12_ways 14 = .ok (.aload_n 0, 1) := by decide +kernel
theorem dX12_ways_15 : decode cX12_ways 15 = .ok (.iload_n 1, 1) := by decide +kernel
theorem dX12_ways_16 : decode cX12_ways 16 = .ok (.putfield 151, 3) := by decide +kernel
theorem dX12_ways_19 : decode cX12_ways 19 = .ok (.iconst 0, 1) := by decide +kernel
theorem dX12_ways_20 : decode cX12_ways 20 = .ok (.istore_n 2, 1) := by decide +kernel
theorem dX12_ways_21 : decode cX12_ways 21 = .ok (.iload_n 2, 1) := by decide +kernel
theorem dX12_ways_22 : decode cX12_ways 22 = .ok (.iconst 3, 1) := by decide +kernel
theorem dX12_ways_23 : decode cX12_ways 23 = .ok (.if_icmp .ge 16, 3) := by decide +kernel
theorem dX12_ways_26 : decode cX12_ways 26 = .ok (.aload_n 0, 1) := by decide +kernel
theorem dX12_ways_27 : decode cX12_ways 27 = .ok (.getfield 155, 3) := by decide +kernel
theorem dX12_ways_30 : decode cX12_ways 30 = .ok (.iload_n 2, 1) := by decide +kernel
theorem dX12_ways_31 : decode cX12_ways 31 = .ok (.iconst 1, 1) := by decide +kernel
theorem dX12_ways_32 : decode cX12_ways 32 = .ok (.iastore, 1) := by decide +kernel
theorem dX12_ways_33 : decode cX12_ways 33 = .ok (.iinc 2 1, 3) := by decide +kernel
theorem dX12_ways_36 : decode cX12_ways 36 = .ok (.goto (-15), 3) := by decide +kernel
theorem dX12_ways_39 : decode cX12_ways 39 = .ok (.iconst 0, 1) := by decide +kernel
theorem dX12_ways_40 : decode cX12_ways 40 = .ok (.istore_n 2, 1) := by decide +kernel
theorem dX12_ways_41 : decode cX12_ways 41 = .ok (.iload_n 2, 1) := by decide +kernel
theorem dX12_ways_42 : decode cX12_ways 42 = .ok (.bipush 18, 2) := by decide +kernel
theorem dX12_ways_44 : decode cX12_ways 44 = .ok (.if_icmp .ge 16, 3) := by decide +kernel
theorem dX12_ways_47 : decode cX12_ways 47 = .ok (.aload_n 0, 1) := by decide +kernel
theorem dX12_ways_48 : decode cX12_ways 48 = .ok (.getfield 158, 3) := by decide +kernel
theorem dX12_ways_51 : decode cX12_ways 51 = .ok (.iload_n 2, 1) := by decide +kernel
theorem dX12_ways_52 : decode cX12_ways 52 = .ok (.iconst 0, 1) := by decide +kernel
theorem dX12_ways_53 : decode cX12_ways 53 = .ok (.iastore, 1) := by decide +kernel
theorem dX12_ways_54 : decode cX12_ways 54 = .ok (.iinc 2 1, 3) := by decide +kernel
theorem dX12_ways_57 : decode cX12_ways 57 = .ok (.goto (-16), 3) := by decide +kernel
theorem dX12_ways_60 : decode cX12_ways 60 = .ok (.iconst 1, 1) := by decide +kernel
theorem dX12_ways_61 : decode cX12_ways 61 = .ok (.ireturn, 1) := by decide +kernel
theorem dX12_weight_0 : decode cX12_weight 0 = .ok (.iload_n 1, 1) := by decide +kernel
theorem dX12_weight_1 : decode cX12_weight 1 = .ok (.i2l, 1) := by decide +kernel
theorem dX12_weight_2 : decode cX12_weight 2 = .ok (.lconst 0, 1) := by decide +kernel
theorem dX12_weight_3 : decode cX12_weight 3 = .ok (.aload_n 0, 1) := by decide +kernel
theorem dX12_weight_4 : decode cX12_weight 4 = .ok (.getfield 151, 3) := by decide +kernel
theorem dX12_weight_7 : decode cX12_weight 7 = .ok (.iconst 1, 1) := by decide +kernel
theorem dX12_weight_8 : decode cX12_weight 8 = .ok (.isub, 1) := by decide +kernel
theorem dX12_weight_9 : decode cX12_weight 9 = .ok (.i2l, 1) := by decide +kernel
theorem dX12_weight_10 : decode cX12_weight 10 = .ok (.invokestatic 245, 3) := by decide +kernel
theorem dX12_weight_13 : decode cX12_weight 13 = .ok (.ifCond .eq 15, 3) := by decide +kernel
theorem dX12_weight_16 : decode cX12_weight 16 = .ok (.iload_n 2, 1) := by decide +kernel
theorem dX12_weight_17 : decode cX12_weight 17 = .ok (.i2l, 1) := by decide +kernel
theorem dX12_weight_18 : decode cX12_weight 18 = .ok (.lconst 1, 1) := by decide +kernel
theorem dX12_weight_19 : decode cX12_weight 19 = .ok (.ldc2_w 441, 3) := by decide +kernel
theorem dX12_weight_22 : decode cX12_weight 22 = .ok (.invokestatic 245, 3) := by decide +kernel
theorem dX12_weight_25 : decode cX12_weight 25 = .ok (.ifCond .ne 5, 3) := by decide +kernel
theorem dX12_weight_28 : decode cX12_weight 28 = .ok (.iconst 0, 1) := by decide +kernel
theorem dX12_weight_29 : decode cX12_weight 29 = .ok (.ireturn, 1) := by decide +kernel
theorem dX12_weight_30 : decode cX12_weight 30 = .ok (.aload_n 0, 1) := by decide +kernel
theorem dX12_weight_31 : decode cX12_weight 31 = .ok (.getfield 155, 3) := by decide +kernel
theorem dX12_weight_34 : decode cX12_weight 34 = .ok (.iload_n 1, 1) := by decide +kernel
theorem dX12_weight_35 : decode cX12_weight 35 = .ok (.iload_n 2, 1) := by decide +kernel
theorem dX12_weight_36 : decode cX12_weight 36 = .ok (.iastore, 1) := by decide +kernel
theorem dX12_weight_37 : decode cX12_weight 37 = .ok (.iconst 1, 1) := by decide +kernel
theorem dX12_weight_38 : decode cX12_weight 38 = .ok (.ireturn, 1) := by decide +kernel
theorem dX12_adds_0 : decode cX12_adds 0 = .ok (.iload_n 1, 1) := by decide +kernel
theorem dX12_adds_1 : decode cX12_adds 1 = .ok (.i2l, 1) := by decide +kernel
theorem dX12_adds_2 : decode cX12_adds 2 = .ok (.lconst 0, 1) := by decide +kernel
theorem dX12_adds_3 : decode cX12_adds 3 = .ok (.aload_n 0, 1) := by decide +kernel
theorem dX12_adds_4 : decode cX12_adds 4 = .ok (.getfield 151, 3) := by decide +kernel
theorem dX12_adds_7 : decode cX12_adds 7 = .ok (.iconst 1, 1) := by decide +kernel
theorem dX12_adds_8 : decode cX12_adds 8 = .ok (.isub, 1) := by decide +kernel
theorem dX12_adds_9 : decode cX12_adds 9 = .ok (.i2l, 1) := by decide +kernel
theorem dX12_adds_10 : decode cX12_adds 10 = .ok (.invokestatic 245, 3) := by decide +kernel
theorem dX12_adds_13 : decode cX12_adds 13 = .ok (.ifCond .eq 29, 3) := by decide +kernel
theorem dX12_adds_16 : decode cX12_adds 16 = .ok (.iload_n 2, 1) := by decide +kernel
theorem dX12_adds_17 : decode cX12_adds 17 = .ok (.i2l, 1) := by decide +kernel
theorem dX12_adds_18 : decode cX12_adds 18 = .ok (.lconst 0, 1) := by decide +kernel
theorem dX12_adds_19 : decode cX12_adds 19 = .ok (.ldc2_w 243, 3) := by decide +kernel
theorem dX12_adds_22 : decode cX12_adds 22 = .ok (.invokestatic 245, 3) := by decide +kernel
theorem dX12_adds_25 : decode cX12_adds 25 = .ok (.ifCond .eq 17, 3) := by decide +kernel
theorem dX12_adds_28 : decode cX12_adds 28 = .ok (.iload_n 3, 1) := by decide +kernel
theorem dX12_adds_29 : decode cX12_adds 29 = .ok (.i2l, 1) := by decide +kernel
theorem dX12_adds_30 : decode cX12_adds 30 = .ok (.ldc2_w 443, 3) := by decide +kernel
theorem dX12_adds_33 : decode cX12_adds 33 = .ok (.ldc2_w 445, 3) := by decide +kernel
theorem dX12_adds_36 : decode cX12_adds 36 = .ok (.invokestatic 245, 3) := by decide +kernel
theorem dX12_adds_39 : decode cX12_adds 39 = .ok (.ifCond .ne 5, 3) := by decide +kernel
theorem dX12_adds_42 : decode cX12_adds 42 = .ok (.iconst 0, 1) := by decide +kernel
theorem dX12_adds_43 : decode cX12_adds 43 = .ok (.ireturn, 1) := by decide +kernel
theorem dX12_adds_44 : decode cX12_adds 44 = .ok (.aload_n 0, 1) := by decide +kernel
theorem dX12_adds_45 : decode cX12_adds 45 = .ok (.getfield 158, 3) := by decide +kernel
theorem dX12_adds_48 : decode cX12_adds 48 = .ok (.bipush 6, 2) := by decide +kernel
theorem dX12_adds_50 : decode cX12_adds 50 = .ok (.iload_n 1, 1) := by decide +kernel
theorem dX12_adds_51 : decode cX12_adds 51 = .ok (.imul, 1) := by decide +kernel
theorem dX12_adds_52 : decode cX12_adds 52 = .ok (.iload_n 2, 1) := by decide +kernel
theorem dX12_adds_53 : decode cX12_adds 53 = .ok (.iadd, 1) := by decide +kernel
theorem dX12_adds_54 : decode cX12_adds 54 = .ok (.iload_n 3, 1) := by decide +kernel
theorem dX12_adds_55 : decode cX12_adds 55 = .ok (.iastore, 1) := by decide +kernel
theorem dX12_adds_56 : decode cX12_adds 56 = .ok (.iconst 1, 1) := by decide +kernel
theorem dX12_adds_57 : decode cX12_adds 57 = .ok (.ireturn, 1) := by decide +kernel
theorem dX12_starts_0 : decode cX12_starts 0 = .ok (.iconst 0, 1) := by decide +kernel
theorem dX12_starts_1 : decode cX12_starts 1 = .ok (.istore_n 1, 1) := by decide +kernel
theorem dX12_starts_2 : decode cX12_starts 2 = .ok (.iload_n 1, 1) := by decide +kernel
theorem dX12_starts_3 : decode cX12_starts 3 = .ok (.bipush 6, 2) := by decide +kernel
theorem dX12_starts_5 : decode cX12_starts 5 = .ok (.if_icmp .ge 24, 3) := by decide +kernel
theorem dX12_starts_8 : decode cX12_starts 8 = .ok (.aload_n 0, 1) := by decide +kernel
theorem dX12_starts_9 : decode cX12_starts 9 = .ok (.getfield 161, 3) := by decide +kernel
theorem dX12_starts_12 : decode cX12_starts 12 = .ok (.iload_n 1, 1) := by decide +kernel
theorem dX12_starts_13 : decode cX12_starts 13 = .ok (.aload_n 0, 1) := by decide +kernel
theorem dX12_starts_14 : decode cX12_starts 14 = .ok (.iload_n 1, 1) := by decide +kernel
theorem dX12_starts_15 : decode cX12_starts 15 = .ok (.aload_n 0, 1) := by decide +kernel
theorem dX12_starts_16 : decode cX12_starts 16 = .ok (.getfield 249, 3) := by decide +kernel
theorem dX12_starts_19 : decode cX12_starts 19 = .ok (.invokevirtual 258, 3) := by decide +kernel
theorem dX12_starts_22 : decode cX12_starts 22 = .ok (.iastore, 1) := by decide +kernel
theorem dX12_starts_23 : decode cX12_starts 23 = .ok (.iinc 1 1, 3) := by decide +kernel
theorem dX12_starts_26 : decode cX12_starts 26 = .ok (.goto (-24), 3) := by decide +kernel
theorem dX12_starts_29 : decode cX12_starts 29 = .ok (.return_, 1) := by decide +kernel
theorem dX12_asIn_0 : decode cX12_asIn 0 = .ok (.aload_n 0, 1) := by decide +kernel
theorem dX12_asIn_1 : decode cX12_asIn 1 = .ok (.aload_n 0, 1) := by decide +kernel
theorem dX12_asIn_2 : decode cX12_asIn 2 = .ok (.getfield 249, 3) := by decide +kernel
theorem dX12_asIn_5 : decode cX12_asIn 5 = .ok (.iload_n 1, 1) := by decide +kernel
theorem dX12_asIn_6 : decode cX12_asIn 6 = .ok (.iadd, 1) := by decide +kernel
theorem dX12_asIn_7 : decode cX12_asIn 7 = .ok (.i2l, 1) := by decide +kernel
theorem dX12_asIn_8 : decode cX12_asIn 8 = .ok (.putfield 340, 3) := by decide +kernel
theorem dX12_asIn_11 : decode cX12_asIn 11 = .ok (.iconst 0, 1) := by decide +kernel
theorem dX12_asIn_12 : decode cX12_asIn 12 = .ok (.istore_n 3, 1) := by decide +kernel
theorem dX12_asIn_13 : decode cX12_asIn 13 = .ok (.iload_n 3, 1) := by decide +kernel
theorem dX12_asIn_14 : decode cX12_asIn 14 = .ok (.bipush 6, 2) := by decide +kernel
theorem dX12_asIn_16 : decode cX12_asIn 16 = .ok (.if_icmp .ge 22, 3) := by decide +kernel
theorem dX12_asIn_19 : decode cX12_asIn 19 = .ok (.aload_n 0, 1) := by decide +kernel
theorem dX12_asIn_20 : decode cX12_asIn 20 = .ok (.getfield 94, 3) := by decide +kernel
theorem dX12_asIn_23 : decode cX12_asIn 23 = .ok (.iload_n 3, 1) := by decide +kernel
theorem dX12_asIn_24 : decode cX12_asIn 24 = .ok (.aload_n 0, 1) := by decide +kernel
theorem dX12_asIn_25 : decode cX12_asIn 25 = .ok (.getfield 161, 3) := by decide +kernel
theorem dX12_asIn_28 : decode cX12_asIn 28 = .ok (.iload_n 3, 1) := by decide +kernel
theorem dX12_asIn_29 : decode cX12_asIn 29 = .ok (.iaload, 1) := by decide +kernel
theorem dX12_asIn_30 : decode cX12_asIn 30 = .ok (.i2l, 1) := by decide +kernel
theorem dX12_asIn_31 : decode cX12_asIn 31 = .ok (.lastore, 1) := by decide +kernel
theorem dX12_asIn_32 : decode cX12_asIn 32 = .ok (.iinc 3 1, 3) := by decide +kernel
theorem dX12_asIn_35 : decode cX12_asIn 35 = .ok (.goto (-22), 3) := by decide +kernel
theorem dX12_asIn_38 : decode cX12_asIn 38 = .ok (.iload_n 2, 1) := by decide +kernel
theorem dX12_asIn_39 : decode cX12_asIn 39 = .ok (.istore_n 3, 1) := by decide +kernel
theorem dX12_asIn_40 : decode cX12_asIn 40 = .ok (.iconst 0, 1) := by decide +kernel
theorem dX12_asIn_41 : decode cX12_asIn 41 = .ok (.istore 4, 2) := by decide +kernel
theorem dX12_asIn_43 : decode cX12_asIn 43 = .ok (.iload 4, 2) := by decide +kernel
theorem dX12_asIn_45 : decode cX12_asIn 45 = .ok (.iload_n 1, 1) := by decide +kernel
theorem dX12_asIn_46 : decode cX12_asIn 46 = .ok (.if_icmp .ge 60, 3) := by decide +kernel
theorem dX12_asIn_49 : decode cX12_asIn 49 = .ok (.iconst 0, 1) := by decide +kernel
theorem dX12_asIn_50 : decode cX12_asIn 50 = .ok (.istore 5, 2) := by decide +kernel
theorem dX12_asIn_52 : decode cX12_asIn 52 = .ok (.iload 5, 2) := by decide +kernel
theorem dX12_asIn_54 : decode cX12_asIn 54 = .ok (.bipush 6, 2) := by decide +kernel
theorem dX12_asIn_56 : decode cX12_asIn 56 = .ok (.if_icmp .ge 37, 3) := by decide +kernel
theorem dX12_asIn_59 : decode cX12_asIn 59 = .ok (.aload_n 0, 1) := by decide +kernel
theorem dX12_asIn_60 : decode cX12_asIn 60 = .ok (.getfield 94, 3) := by decide +kernel
theorem dX12_asIn_63 : decode cX12_asIn 63 = .ok (.iload 5, 2) := by decide +kernel
theorem dX12_asIn_65 : decode cX12_asIn 65 = .ok (.dup2, 1) := by decide +kernel
theorem dX12_asIn_66 : decode cX12_asIn 66 = .ok (.laload, 1) := by decide +kernel
theorem dX12_asIn_67 : decode cX12_asIn 67 = .ok (.aload_n 0, 1) := by decide +kernel
theorem dX12_asIn_68 : decode cX12_asIn 68 = .ok (.getfield 158, 3) := by decide +kernel
theorem dX12_asIn_71 : decode cX12_asIn 71 = .ok (.bipush 6, 2) := by decide +kernel
theorem dX12_asIn_73 : decode cX12_asIn 73 = .ok (.iload_n 3, 1) := by decide +kernel
theorem dX12_asIn_74 : decode cX12_asIn 74 = .ok (.aload_n 0, 1) := by decide +kernel
theorem dX12_asIn_75 : decode cX12_asIn 75 = .ok (.getfield 151, 3) := by decide +kernel
theorem dX12_asIn_78 : decode cX12_asIn 78 = .ok (.irem, 1) := by decide +kernel
theorem dX12_asIn_79 : decode cX12_asIn 79 = .ok (.imul, 1) := by decide +kernel
theorem dX12_asIn_80 : decode cX12_asIn 80 = .ok (.iload 5, 2) := by decide +kernel
theorem dX12_asIn_82 : decode cX12_asIn 82 = .ok (.iadd, 1) := by decide +kernel
theorem dX12_asIn_83 : decode cX12_asIn 83 = .ok (.iaload, 1) := by decide +kernel
theorem dX12_asIn_84 : decode cX12_asIn 84 = .ok (.i2l, 1) := by decide +kernel
theorem dX12_asIn_85 : decode cX12_asIn 85 = .ok (.ladd, 1) := by decide +kernel
theorem dX12_asIn_86 : decode cX12_asIn 86 = .ok (.lastore, 1) := by decide +kernel
theorem dX12_asIn_87 : decode cX12_asIn 87 = .ok (.iinc 5 1, 3) := by decide +kernel
theorem dX12_asIn_90 : decode cX12_asIn 90 = .ok (.goto (-38), 3) := by decide +kernel
theorem dX12_asIn_93 : decode cX12_asIn 93 = .ok (.iload_n 3, 1) := by decide +kernel
theorem dX12_asIn_94 : decode cX12_asIn 94 = .ok (.aload_n 0, 1) := by decide +kernel
theorem dX12_asIn_95 : decode cX12_asIn 95 = .ok (.getfield 151, 3) := by decide +kernel
theorem dX12_asIn_98 : decode cX12_asIn 98 = .ok (.idiv, 1) := by decide +kernel
theorem dX12_asIn_99 : decode cX12_asIn 99 = .ok (.istore_n 3, 1) := by decide +kernel
theorem dX12_asIn_100 : decode cX12_asIn 100 = .ok (.iinc 4 1, 3) := by decide +kernel
theorem dX12_asIn_103 : decode cX12_asIn 103 = .ok (.goto (-60), 3) := by decide +kernel
theorem dX12_asIn_106 : decode cX12_asIn 106 = .ok (.return_, 1) := by decide +kernel
theorem dX12_power_0 : decode cX12_power 0 = .ok (.iconst 1, 1) := by decide +kernel
theorem dX12_power_1 : decode cX12_power 1 = .ok (.istore_n 2, 1) := by decide +kernel
theorem dX12_power_2 : decode cX12_power 2 = .ok (.iconst 0, 1) := by decide +kernel
theorem dX12_power_3 : decode cX12_power 3 = .ok (.istore_n 3, 1) := by decide +kernel
theorem dX12_power_4 : decode cX12_power 4 = .ok (.iload_n 3, 1) := by decide +kernel
theorem dX12_power_5 : decode cX12_power 5 = .ok (.iload_n 1, 1) := by decide +kernel
theorem dX12_power_6 : decode cX12_power 6 = .ok (.if_icmp .ge 13, 3) := by decide +kernel
theorem dX12_power_9 : decode cX12_power 9 = .ok (.iload_n 2, 1) := by decide +kernel
theorem dX12_power_10 : decode cX12_power 10 = .ok (.iload_n 0, 1) := by decide +kernel
theorem dX12_power_11 : decode cX12_power 11 = .ok (.imul, 1) := by decide +kernel
theorem dX12_power_12 : decode cX12_power 12 = .ok (.istore_n 2, 1) := by decide +kernel
theorem dX12_power_13 : decode cX12_power 13 = .ok (.iinc 3 1, 3) := by decide +kernel
theorem dX12_power_16 : decode cX12_power 16 = .ok (.goto (-12), 3) := by decide +kernel
theorem dX12_power_19 : decode cX12_power 19 = .ok (.iload_n 2, 1) := by decide +kernel
theorem dX12_power_20 : decode cX12_power 20 = .ok (.ireturn, 1) := by decide +kernel
theorem dX12_allWeights_0 : decode cX12_allWeights 0 = .ok (.iconst 0, 1) := by decide +kernel
theorem dX12_allWeights_1 : decode cX12_allWeights 1 = .ok (.istore_n 1, 1) := by decide +kernel
theorem dX12_allWeights_2 : decode cX12_allWeights 2 = .ok (.iconst 0, 1) := by decide +kernel
theorem dX12_allWeights_3 : decode cX12_allWeights 3 = .ok (.istore_n 2, 1) := by decide +kernel
theorem dX12_allWeights_4 : decode cX12_allWeights 4 = .ok (.iload_n 2, 1) := by decide +kernel
theorem dX12_allWeights_5 : decode cX12_allWeights 5 = .ok (.aload_n 0, 1) := by decide +kernel
theorem dX12_allWeights_6 : decode cX12_allWeights 6 = .ok (.getfield 151, 3) := by decide +kernel
theorem dX12_allWeights_9 : decode cX12_allWeights 9 = .ok (.if_icmp .ge 18, 3) := by decide +kernel
theorem dX12_allWeights_12 : decode cX12_allWeights 12 = .ok (.iload_n 1, 1) := by decide +kernel
theorem dX12_allWeights_13 : decode cX12_allWeights 13 = .ok (.aload_n 0, 1) := by decide +kernel
theorem dX12_allWeights_14 : decode cX12_allWeights 14 = .ok (.getfield 155, 3) := by decide +kernel
theorem dX12_allWeights_17 : decode cX12_allWeights 17 = .ok (.iload_n 2, 1) := by decide +kernel
theorem dX12_allWeights_18 : decode cX12_allWeights 18 = .ok (.iaload, 1) := by decide +kernel
theorem dX12_allWeights_19 : decode cX12_allWeights 19 = .ok (.iadd, 1) := by decide +kernel
theorem dX12_allWeights_20 : decode cX12_allWeights 20 = .ok (.istore_n 1, 1) := by decide +kernel
theorem dX12_allWeights_21 : decode cX12_allWeights 21 = .ok (.iinc 2 1, 3) := by decide +kernel
theorem dX12_allWeights_24 : decode cX12_allWeights 24 = .ok (.goto (-20), 3) := by decide +kernel
theorem dX12_allWeights_27 : decode cX12_allWeights 27 = .ok (.iload_n 1, 1) := by decide +kernel
theorem dX12_allWeights_28 : decode cX12_allWeights 28 = .ok (.ireturn, 1) := by decide +kernel
theorem dX12_pushes_0 : decode cX12_pushes 0 = .ok (.aload_n 0, 1) := by decide +kernel
theorem dX12_pushes_1 : decode cX12_pushes 1 = .ok (.getfield 164, 3) := by decide +kernel
theorem dX12_pushes_4 : decode cX12_pushes 4 = .ok (.aload_n 0, 1) := by decide +kernel
theorem dX12_pushes_5 : decode cX12_pushes 5 = .ok (.getfield 447, 3) := by decide +kernel
theorem dX12_pushes_8 : decode cX12_pushes 8 = .ok (.iload_n 1, 1) := by decide +kernel
theorem dX12_pushes_9 : decode cX12_pushes 9 = .ok (.iastore, 1) := by decide +kernel
theorem dX12_pushes_10 : decode cX12_pushes 10 = .ok (.aload_n 0, 1) := by decide +kernel
theorem dX12_pushes_11 : decode cX12_pushes 11 = .ok (.getfield 167, 3) := by decide +kernel
theorem dX12_pushes_14 : decode cX12_pushes 14 = .ok (.aload_n 0, 1) := by decide +kernel
theorem dX12_pushes_15 : decode cX12_pushes 15 = .ok (.getfield 447, 3) := by decide +kernel
theorem dX12_pushes_18 : decode cX12_pushes 18 = .ok (.iload_n 2, 1) := by decide +kernel
theorem dX12_pushes_19 : decode cX12_pushes 19 = .ok (.iastore, 1) := by decide +kernel
theorem dX12_pushes_20 : decode cX12_pushes 20 = .ok (.aload_n 0, 1) := by decide +kernel
theorem dX12_pushes_21 : decode cX12_pushes 21 = .ok (.getfield 170, 3) := by decide +kernel
theorem dX12_pushes_24 : decode cX12_pushes 24 = .ok (.aload_n 0, 1) := by decide +kernel
theorem dX12_pushes_25 : decode cX12_pushes 25 = .ok (.getfield 447, 3) := by decide +kernel
theorem dX12_pushes_28 : decode cX12_pushes 28 = .ok (.iload_n 3, 1) := by decide +kernel
theorem dX12_pushes_29 : decode cX12_pushes 29 = .ok (.iastore, 1) := by decide +kernel
theorem dX12_pushes_30 : decode cX12_pushes 30 = .ok (.aload_n 0, 1) := by decide +kernel
theorem dX12_pushes_31 : decode cX12_pushes 31 = .ok (.getfield 173, 3) := by decide +kernel
theorem dX12_pushes_34 : decode cX12_pushes 34 = .ok (.aload_n 0, 1) := by decide +kernel
theorem dX12_pushes_35 : decode cX12_pushes 35 = .ok (.getfield 447, 3) := by decide +kernel
theorem dX12_pushes_38 : decode cX12_pushes 38 = .ok (.lload 4, 2) := by decide +kernel
theorem dX12_pushes_40 : decode cX12_pushes 40 = .ok (.lastore, 1) := by decide +kernel
theorem dX12_pushes_41 : decode cX12_pushes 41 = .ok (.aload_n 0, 1) := by decide +kernel
theorem dX12_pushes_42 : decode cX12_pushes 42 = .ok (.getfield 176, 3) := by decide +kernel
theorem dX12_pushes_45 : decode cX12_pushes 45 = .ok (.aload_n 0, 1) := by decide +kernel
theorem dX12_pushes_46 : decode cX12_pushes 46 = .ok (.getfield 447, 3) := by decide +kernel
theorem dX12_pushes_49 : decode cX12_pushes 49 = .ok (.iconst 0, 1) := by decide +kernel
theorem dX12_pushes_50 : decode cX12_pushes 50 = .ok (.iastore, 1) := by decide +kernel
theorem dX12_pushes_51 : decode cX12_pushes 51 = .ok (.aload_n 0, 1) := by decide +kernel
theorem dX12_pushes_52 : decode cX12_pushes 52 = .ok (.getfield 182, 3) := by decide +kernel
theorem dX12_pushes_55 : decode cX12_pushes 55 = .ok (.aload_n 0, 1) := by decide +kernel
theorem dX12_pushes_56 : decode cX12_pushes 56 = .ok (.getfield 447, 3) := by decide +kernel
theorem dX12_pushes_59 : decode cX12_pushes 59 = .ok (.iconst 0, 1) := by decide +kernel
theorem dX12_pushes_60 : decode cX12_pushes 60 = .ok (.bastore, 1) := by decide +kernel
theorem dX12_pushes_61 : decode cX12_pushes 61 = .ok (.aload_n 0, 1) := by decide +kernel
theorem dX12_pushes_62 : decode cX12_pushes 62 = .ok (.dup, 1) := by decide +kernel
theorem dX12_pushes_63 : decode cX12_pushes 63 = .ok (.getfield 447, 3) := by decide +kernel
theorem dX12_pushes_66 : decode cX12_pushes 66 = .ok (.iconst 1, 1) := by decide +kernel
theorem dX12_pushes_67 : decode cX12_pushes 67 = .ok (.iadd, 1) := by decide +kernel
theorem dX12_pushes_68 : decode cX12_pushes 68 = .ok (.putfield 447, 3) := by decide +kernel
theorem dX12_pushes_71 : decode cX12_pushes 71 = .ok (.return_, 1) := by decide +kernel
theorem dX12_answers_0 : decode cX12_answers 0 = .ok (.aload_n 0, 1) := by decide +kernel
theorem dX12_answers_1 : decode cX12_answers 1 = .ok (.dup, 1) := by decide +kernel
theorem dX12_answers_2 : decode cX12_answers 2 = .ok (.getfield 447, 3) := by decide +kernel
theorem dX12_answers_5 : decode cX12_answers 5 = .ok (.iconst 1, 1) := by decide +kernel
theorem dX12_answers_6 : decode cX12_answers 6 = .ok (.isub, 1) := by decide +kernel
theorem dX12_answers_7 : decode cX12_answers 7 = .ok (.putfield 447, 3) := by decide +kernel
theorem dX12_answers_10 : decode cX12_answers 10 = .ok (.aload_n 0, 1) := by decide +kernel
theorem dX12_answers_11 : decode cX12_answers 11 = .ok (.lload_n 1, 1) := by decide +kernel
theorem dX12_answers_12 : decode cX12_answers 12 = .ok (.putfield 450, 3) := by decide +kernel
theorem dX12_answers_15 : decode cX12_answers 15 = .ok (.return_, 1) := by decide +kernel
theorem dX12_better_0 : decode cX12_better 0 = .ok (.iload_n 0, 1) := by decide +kernel
theorem dX12_better_1 : decode cX12_better 1 = .ok (.ifCond .ne 7, 3) := by decide +kernel
theorem dX12_better_4 : decode cX12_better 4 = .ok (.iconst 1, 1) := by decide +kernel
theorem dX12_better_5 : decode cX12_better 5 = .ok (.goto 4, 3) := by decide +kernel
theorem dX12_better_8 : decode cX12_better 8 = .ok (.iconst 0, 1) := by decide +kernel
theorem dX12_better_9 : decode cX12_better 9 = .ok (.lload_n 1, 1) := by decide +kernel
theorem dX12_better_10 : decode cX12_better 10 = .ok (.lload_n 3, 1) := by decide +kernel
theorem dX12_better_11 : decode cX12_better 11 = .ok (.lcmp, 1) := by decide +kernel
theorem dX12_better_12 : decode cX12_better 12 = .ok (.ifCond .le 7, 3) := by decide +kernel
theorem dX12_better_15 : decode cX12_better 15 = .ok (.iconst 1, 1) := by decide +kernel
theorem dX12_better_16 : decode cX12_better 16 = .ok (.goto 4, 3) := by decide +kernel
theorem dX12_better_19 : decode cX12_better 19 = .ok (.iconst 0, 1) := by decide +kernel
theorem dX12_better_20 : decode cX12_better 20 = .ok (.if_icmp .ne 7, 3) := by decide +kernel
theorem dX12_better_23 : decode cX12_better 23 = .ok (.lload_n 1, 1) := by decide +kernel
theorem dX12_better_24 : decode cX12_better 24 = .ok (.goto 4, 3) := by decide +kernel
theorem dX12_better_27 : decode cX12_better 27 = .ok (.lload_n 3, 1) := by decide +kernel
theorem dX12_better_28 : decode cX12_better 28 = .ok (.lreturn, 1) := by decide +kernel
theorem dX12_enters_0 : decode cX12_enters 0 = .ok (.aload_n 0, 1) := by decide +kernel
theorem dX12_enters_1 : decode cX12_enters 1 = .ok (.getfield 164, 3) := by decide +kernel
theorem dX12_enters_4 : decode cX12_enters 4 = .ok (.iload_n 1, 1) := by decide +kernel
theorem dX12_enters_5 : decode cX12_enters 5 = .ok (.iaload, 1) := by decide +kernel
theorem dX12_enters_6 : decode cX12_enters 6 = .ok (.istore 4, 2) := by decide +kernel
theorem dX12_enters_8 : decode cX12_enters 8 = .ok (.aload_n 0, 1) := by decide +kernel
theorem dX12_enters_9 : decode cX12_enters 9 = .ok (.aload_n 0, 1) := by decide +kernel
theorem dX12_enters_10 : decode cX12_enters 10 = .ok (.getfield 167, 3) := by decide +kernel
theorem dX12_enters_13 : decode cX12_enters 13 = .ok (.iload_n 1, 1) := by decide +kernel
theorem dX12_enters_14 : decode cX12_enters 14 = .ok (.iaload, 1) := by decide +kernel
theorem dX12_enters_15 : decode cX12_enters 15 = .ok (.aload_n 0, 1) := by decide +kernel
theorem dX12_enters_16 : decode cX12_enters 16 = .ok (.getfield 170, 3) := by decide +kernel
theorem dX12_enters_19 : decode cX12_enters 19 = .ok (.iload_n 1, 1) := by decide +kernel
theorem dX12_enters_20 : decode cX12_enters 20 = .ok (.iaload, 1) := by decide +kernel
theorem dX12_enters_21 : decode cX12_enters 21 = .ok (.invokevirtual 453, 3) := by decide +kernel
theorem dX12_enters_24 : decode cX12_enters 24 = .ok (.aload_n 0, 1) := by decide +kernel
theorem dX12_enters_25 : decode cX12_enters 25 = .ok (.iload 4, 2) := by decide +kernel
theorem dX12_enters_27 : decode cX12_enters 27 = .ok (.invokevirtual 374, 3) := by decide +kernel
theorem dX12_enters_30 : decode cX12_enters 30 = .ok (.ifCond .ne 13, 3) := by decide +kernel
theorem dX12_enters_33 : decode cX12_enters 33 = .ok (.aload_n 0, 1) := by decide +kernel
theorem dX12_enters_34 : decode cX12_enters 34 = .ok (.getfield 20, 3) := by decide +kernel
theorem dX12_enters_37 : decode cX12_enters 37 = .ok (.iload 4, 2) := by decide +kernel
theorem dX12_enters_39 : decode cX12_enters 39 = .ok (.iaload, 1) := by decide +kernel
theorem dX12_enters_40 : decode cX12_enters 40 = .ok (.ifCond .ne 9, 3) := by decide +kernel
theorem dX12_enters_43 : decode cX12_enters 43 = .ok (.aload_n 0, 1) := by decide +kernel
theorem dX12_enters_44 : decode cX12_enters 44 = .ok (.lconst 0, 1) := by decide +kernel
theorem dX12_enters_45 : decode cX12_enters 45 = .ok (.invokevirtual 456, 3) := by decide +kernel
theorem dX12_enters_48 : decode cX12_enters 48 = .ok (.return_, 1) := by decide +kernel
theorem dX12_enters_49 : decode cX12_enters 49 = .ok (.aload_n 0, 1) := by decide +kernel
theorem dX12_enters_50 : decode cX12_enters 50 = .ok (.iload 4, 2) := by decide +kernel
theorem dX12_enters_52 : decode cX12_enters 52 = .ok (.invokevirtual 377, 3) := by decide +kernel
theorem dX12_enters_55 : decode cX12_enters 55 = .ok (.istore 5, 2) := by decide +kernel
theorem dX12_enters_57 : decode cX12_enters 57 = .ok (.iload 5, 2) := by decide +kernel
theorem dX12_enters_59 : decode cX12_enters 59 = .ok (.ifCond .lt 30, 3) := by decide +kernel
theorem dX12_enters_62 : decode cX12_enters 62 = .ok (.aload_n 0, 1) := by decide +kernel
theorem dX12_enters_63 : decode cX12_enters 63 = .ok (.getfield 173, 3) := by decide +kernel
theorem dX12_enters_66 : decode cX12_enters 66 = .ok (.iload_n 1, 1) := by decide +kernel
theorem dX12_enters_67 : decode cX12_enters 67 = .ok (.aload_n 0, 1) := by decide +kernel
theorem dX12_enters_68 : decode cX12_enters 68 = .ok (.iload 4, 2) := by decide +kernel
theorem dX12_enters_70 : decode cX12_enters 70 = .ok (.aload_n 0, 1) := by decide +kernel
theorem dX12_enters_71 : decode cX12_enters 71 = .ok (.getfield 173, 3) := by decide +kernel
theorem dX12_enters_74 : decode cX12_enters 74 = .ok (.iload_n 1, 1) := by decide +kernel
theorem dX12_enters_75 : decode cX12_enters 75 = .ok (.laload, 1) := by decide +kernel
theorem dX12_enters_76 : decode cX12_enters 76 = .ok (.invokevirtual 380, 3) := by decide +kernel
theorem dX12_enters_79 : decode cX12_enters 79 = .ok (.lastore, 1) := by decide +kernel
theorem dX12_enters_80 : decode cX12_enters 80 = .ok (.aload_n 0, 1) := by decide +kernel
theorem dX12_enters_81 : decode cX12_enters 81 = .ok (.getfield 164, 3) := by decide +kernel
theorem dX12_enters_84 : decode cX12_enters 84 = .ok (.iload_n 1, 1) := by decide +kernel
theorem dX12_enters_85 : decode cX12_enters 85 = .ok (.iload 5, 2) := by decide +kernel
theorem dX12_enters_87 : decode cX12_enters 87 = .ok (.iastore, 1) := by decide +kernel
theorem dX12_enters_88 : decode cX12_enters 88 = .ok (.return_, 1) := by decide +kernel
theorem dX12_enters_89 : decode cX12_enters 89 = .ok (.aload_n 0, 1) := by decide +kernel
theorem dX12_enters_90 : decode cX12_enters 90 = .ok (.getfield 20, 3) := by decide +kernel
theorem dX12_enters_93 : decode cX12_enters 93 = .ok (.iload 4, 2) := by decide +kernel
theorem dX12_enters_95 : decode cX12_enters 95 = .ok (.iaload, 1) := by decide +kernel
theorem dX12_enters_96 : decode cX12_enters 96 = .ok (.iconst 1, 1) := by decide +kernel
theorem dX12_enters_97 : decode cX12_enters 97 = .ok (.if_icmp .ne 47, 3) := by decide +kernel
theorem dX12_enters_100 : decode cX12_enters 100 = .ok (.aload_n 0, 1) := by decide +kernel
theorem dX12_enters_101 : decode cX12_enters 101 = .ok (.aload_n 0, 1) := by decide +kernel
theorem dX12_enters_102 : decode cX12_enters 102 = .ok (.iload 4, 2) := by decide +kernel
theorem dX12_enters_104 : decode cX12_enters 104 = .ok (.aload_n 0, 1) := by decide +kernel
theorem dX12_enters_105 : decode cX12_enters 105 = .ok (.getfield 173, 3) := by decide +kernel
theorem dX12_enters_108 : decode cX12_enters 108 = .ok (.iload_n 1, 1) := by decide +kernel
theorem dX12_enters_109 : decode cX12_enters 109 = .ok (.laload, 1) := by decide +kernel
theorem dX12_enters_110 : decode cX12_enters 110 = .ok (.invokevirtual 384, 3) := by decide +kernel
theorem dX12_enters_113 : decode cX12_enters 113 = .ok (.iload_n 3, 1) := by decide +kernel
theorem dX12_enters_114 : decode cX12_enters 114 = .ok (.ifCond .ne 21, 3) := by decide +kernel
theorem dX12_enters_117 : decode cX12_enters 117 = .ok (.aload_n 0, 1) := by decide +kernel
theorem dX12_enters_118 : decode cX12_enters 118 = .ok (.invokevirtual 460, 3) := by decide +kernel
theorem dX12_enters_121 : decode cX12_enters 121 = .ok (.iload_n 2, 1) := by decide +kernel
theorem dX12_enters_122 : decode cX12_enters 122 = .ok (.aload_n 0, 1) := by decide +kernel
theorem dX12_enters_123 : decode cX12_enters 123 = .ok (.getfield 167, 3) := by decide +kernel
theorem dX12_enters_126 : decode cX12_enters 126 = .ok (.iload_n 1, 1) := by decide +kernel
theorem dX12_enters_127 : decode cX12_enters 127 = .ok (.iaload, 1) := by decide +kernel
theorem dX12_enters_128 : decode cX12_enters 128 = .ok (.isub, 1) := by decide +kernel
theorem dX12_enters_129 : decode cX12_enters 129 = .ok (.invokestatic 463, 3) := by decide +kernel
theorem dX12_enters_132 : decode cX12_enters 132 = .ok (.goto 4, 3) := by decide +kernel
theorem dX12_enters_135 : decode cX12_enters 135 = .ok (.iconst 1, 1) := by decide +kernel
theorem dX12_enters_136 : decode cX12_enters 136 = .ok (.i2l, 1) := by decide +kernel
theorem dX12_enters_137 : decode cX12_enters 137 = .ok (.lmul, 1) := by decide +kernel
theorem dX12_enters_138 : decode cX12_enters 138 = .ok (.invokevirtual 456, 3) := by decide +kernel
theorem dX12_enters_141 : decode cX12_enters 141 = .ok (.goto 92, 3) := by decide +kernel
theorem dX12_enters_144 : decode cX12_enters 144 = .ok (.aload_n 0, 1) := by decide +kernel
theorem dX12_enters_145 : decode cX12_enters 145 = .ok (.getfield 20, 3) := by decide +kernel
theorem dX12_enters_148 : decode cX12_enters 148 = .ok (.iload 4, 2) := by decide +kernel
theorem dX12_enters_150 : decode cX12_enters 150 = .ok (.iaload, 1) := by decide +kernel
theorem dX12_enters_151 : decode cX12_enters 151 = .ok (.iconst 3, 1) := by decide +kernel
theorem dX12_enters_152 : decode cX12_enters 152 = .ok (.if_icmp .eq 35, 3) := by decide +kernel
theorem dX12_enters_155 : decode cX12_enters 155 = .ok (.aload_n 0, 1) := by decide +kernel
theorem dX12_enters_156 : decode cX12_enters 156 = .ok (.getfield 20, 3) := by decide +kernel
theorem dX12_enters_159 : decode cX12_enters 159 = .ok (.iload 4, 2) := by decide +kernel
theorem dX12_enters_161 : decode cX12_enters 161 = .ok (.iaload, 1) := by decide +kernel
theorem dX12_enters_162 : decode cX12_enters 162 = .ok (.iconst 4, 1) := by decide +kernel
theorem dX12_enters_163 : decode cX12_enters 163 = .ok (.if_icmp .eq 24, 3) := by decide +kernel
theorem dX12_enters_166 : decode cX12_enters 166 = .ok (.aload_n 0, 1) := by decide +kernel
theorem dX12_enters_167 : decode cX12_enters 167 = .ok (.getfield 20, 3) := by decide +kernel
theorem dX12_enters_170 : decode cX12_enters 170 = .ok (.iload 4, 2) := by decide +kernel
theorem dX12_enters_172 : decode cX12_enters 172 = .ok (.iaload, 1) := by decide +kernel
theorem dX12_enters_173 : decode cX12_enters 173 = .ok (.bipush 7, 2) := by decide +kernel
theorem dX12_enters_175 : decode cX12_enters 175 = .ok (.if_icmp .ne 51, 3) := by decide +kernel
theorem dX12_enters_178 : decode cX12_enters 178 = .ok (.aload_n 0, 1) := by decide +kernel
theorem dX12_enters_179 : decode cX12_enters 179 = .ok (.iload 4, 2) := by decide +kernel
theorem dX12_enters_181 : decode cX12_enters 181 = .ok (.invokevirtual 348, 3) := by decide +kernel
theorem dX12_enters_184 : decode cX12_enters 184 = .ok (.ifCond .eq 42, 3) := by decide +kernel
theorem dX12_enters_187 : decode cX12_enters 187 = .ok (.aload_n 0, 1) := by decide +kernel
theorem dX12_enters_188 : decode cX12_enters 188 = .ok (.getfield 176, 3) := by decide +kernel
theorem dX12_enters_191 : decode cX12_enters 191 = .ok (.iload_n 1, 1) := by decide +kernel
theorem dX12_enters_192 : decode cX12_enters 192 = .ok (.iconst 1, 1) := by decide +kernel
theorem dX12_enters_193 : decode cX12_enters 193 = .ok (.iastore, 1) := by decide +kernel
theorem dX12_enters_194 : decode cX12_enters 194 = .ok (.aload_n 0, 1) := by decide +kernel
theorem dX12_enters_195 : decode cX12_enters 195 = .ok (.aload_n 0, 1) := by decide +kernel
theorem dX12_enters_196 : decode cX12_enters 196 = .ok (.getfield 32, 3) := by decide +kernel
theorem dX12_enters_199 : decode cX12_enters 199 = .ok (.iload 4, 2) := by decide +kernel
theorem dX12_enters_201 : decode cX12_enters 201 = .ok (.iaload, 1) := by decide +kernel
theorem dX12_enters_202 : decode cX12_enters 202 = .ok (.aload_n 0, 1) := by decide +kernel
theorem dX12_enters_203 : decode cX12_enters 203 = .ok (.getfield 167, 3) := by decide +kernel
theorem dX12_enters_206 : decode cX12_enters 206 = .ok (.iload_n 1, 1) := by decide +kernel
theorem dX12_enters_207 : decode cX12_enters 207 = .ok (.iaload, 1) := by decide +kernel
theorem dX12_enters_208 : decode cX12_enters 208 = .ok (.aload_n 0, 1) := by decide +kernel
theorem dX12_enters_209 : decode cX12_enters 209 = .ok (.getfield 170, 3) := by decide +kernel
theorem dX12_enters_212 : decode cX12_enters 212 = .ok (.iload_n 1, 1) := by decide +kernel
theorem dX12_enters_213 : decode cX12_enters 213 = .ok (.iaload, 1) := by decide +kernel
theorem dX12_enters_214 : decode cX12_enters 214 = .ok (.aload_n 0, 1) := by decide +kernel
theorem dX12_enters_215 : decode cX12_enters 215 = .ok (.getfield 173, 3) := by decide +kernel
theorem dX12_enters_218 : decode cX12_enters 218 = .ok (.iload_n 1, 1) := by decide +kernel
theorem dX12_enters_219 : decode cX12_enters 219 = .ok (.laload, 1) := by decide +kernel
theorem dX12_enters_220 : decode cX12_enters 220 = .ok (.invokevirtual 466, 3) := by decide +kernel
theorem dX12_enters_223 : decode cX12_enters 223 = .ok (.goto 10, 3) := by decide +kernel
theorem dX12_enters_226 : decode cX12_enters 226 = .ok (.aload_n 0, 1) := by decide +kernel
theorem dX12_enters_227 : decode cX12_enters 227 = .ok (.getfield 176, 3) := by decide +kernel
theorem dX12_enters_230 : decode cX12_enters 230 = .ok (.iload_n 1, 1) := by decide +kernel
theorem dX12_enters_231 : decode cX12_enters 231 = .ok (.iconst 3, 1) := by decide +kernel
theorem dX12_enters_232 : decode cX12_enters 232 = .ok (.iastore, 1) := by decide +kernel
theorem dX12_enters_233 : decode cX12_enters 233 = .ok (.return_, 1) := by decide +kernel
theorem dX12_waitsOn_0 : decode cX12_waitsOn 0 = .ok (.aload_n 0, 1) := by decide +kernel
theorem dX12_waitsOn_1 : decode cX12_waitsOn 1 = .ok (.getfield 164, 3) := by decide +kernel
theorem dX12_waitsOn_4 : decode cX12_waitsOn 4 = .ok (.iload_n 1, 1) := by decide +kernel
theorem dX12_waitsOn_5 : decode cX12_waitsOn 5 = .ok (.iaload, 1) := by decide +kernel
theorem dX12_waitsOn_6 : decode cX12_waitsOn 6 = .ok (.istore_n 3, 1) := by decide +kernel
theorem dX12_waitsOn_7 : decode cX12_waitsOn 7 = .ok (.aload_n 0, 1) := by decide +kernel
theorem dX12_waitsOn_8 : decode cX12_waitsOn 8 = .ok (.getfield 167, 3) := by decide +kernel
theorem dX12_waitsOn_11 : decode cX12_waitsOn 11 = .ok (.iload_n 1, 1) := by decide +kernel
theorem dX12_waitsOn_12 : decode cX12_waitsOn 12 = .ok (.iaload, 1) := by decide +kernel
theorem dX12_waitsOn_13 : decode cX12_waitsOn 13 = .ok (.iload_n 2, 1) := by decide +kernel
theorem dX12_waitsOn_14 : decode cX12_waitsOn 14 = .ok (.if_icmp .ge 61, 3) := by decide +kernel
theorem dX12_waitsOn_17 : decode cX12_waitsOn 17 = .ok (.aload_n 0, 1) := by decide +kernel
theorem dX12_waitsOn_18 : decode cX12_waitsOn 18 = .ok (.getfield 189, 3) := by decide +kernel
theorem dX12_waitsOn_21 : decode cX12_waitsOn 21 = .ok (.iload_n 1, 1) := by decide +kernel
theorem dX12_waitsOn_22 : decode cX12_waitsOn 22 = .ok (.iaload, 1) := by decide +kernel
theorem dX12_waitsOn_23 : decode cX12_waitsOn 23 = .ok (.aload_n 0, 1) := by decide +kernel
theorem dX12_waitsOn_24 : decode cX12_waitsOn 24 = .ok (.getfield 151, 3) := by decide +kernel
theorem dX12_waitsOn_27 : decode cX12_waitsOn 27 = .ok (.if_icmp .ge 48, 3) := by decide +kernel
theorem dX12_waitsOn_30 : decode cX12_waitsOn 30 = .ok (.aload_n 0, 1) := by decide +kernel
theorem dX12_waitsOn_31 : decode cX12_waitsOn 31 = .ok (.getfield 176, 3) := by decide +kernel
theorem dX12_waitsOn_34 : decode cX12_waitsOn 34 = .ok (.iload_n 1, 1) := by decide +kernel
theorem dX12_waitsOn_35 : decode cX12_waitsOn 35 = .ok (.iconst 4, 1) := by decide +kernel
theorem dX12_waitsOn_36 : decode cX12_waitsOn 36 = .ok (.iastore, 1) := by decide +kernel
theorem dX12_waitsOn_37 : decode cX12_waitsOn 37 = .ok (.aload_n 0, 1) := by decide +kernel
theorem dX12_waitsOn_38 : decode cX12_waitsOn 38 = .ok (.iload_n 3, 1) := by decide +kernel
theorem dX12_waitsOn_39 : decode cX12_waitsOn 39 = .ok (.aload_n 0, 1) := by decide +kernel
theorem dX12_waitsOn_40 : decode cX12_waitsOn 40 = .ok (.getfield 167, 3) := by decide +kernel
theorem dX12_waitsOn_43 : decode cX12_waitsOn 43 = .ok (.iload_n 1, 1) := by decide +kernel
theorem dX12_waitsOn_44 : decode cX12_waitsOn 44 = .ok (.iaload, 1) := by decide +kernel
theorem dX12_waitsOn_45 : decode cX12_waitsOn 45 = .ok (.iconst 1, 1) := by decide +kernel
theorem dX12_waitsOn_46 : decode cX12_waitsOn 46 = .ok (.iadd, 1) := by decide +kernel
theorem dX12_waitsOn_47 : decode cX12_waitsOn 47 = .ok (.aload_n 0, 1) := by decide +kernel
theorem dX12_waitsOn_48 : decode cX12_waitsOn 48 = .ok (.getfield 170, 3) := by decide +kernel
theorem dX12_waitsOn_51 : decode cX12_waitsOn 51 = .ok (.iload_n 1, 1) := by decide +kernel
theorem dX12_waitsOn_52 : decode cX12_waitsOn 52 = .ok (.iaload, 1) := by decide +kernel
theorem dX12_waitsOn_53 : decode cX12_waitsOn 53 = .ok (.aload_n 0, 1) := by decide +kernel
theorem dX12_waitsOn_54 : decode cX12_waitsOn 54 = .ok (.getfield 151, 3) := by decide +kernel
theorem dX12_waitsOn_57 : decode cX12_waitsOn 57 = .ok (.imul, 1) := by decide +kernel
theorem dX12_waitsOn_58 : decode cX12_waitsOn 58 = .ok (.aload_n 0, 1) := by decide +kernel
theorem dX12_waitsOn_59 : decode cX12_waitsOn 59 = .ok (.getfield 189, 3) := by decide +kernel
theorem dX12_waitsOn_62 : decode cX12_waitsOn 62 = .ok (.iload_n 1, 1) := by decide +kernel
theorem dX12_waitsOn_63 : decode cX12_waitsOn 63 = .ok (.iaload, 1) := by decide +kernel
theorem dX12_waitsOn_64 : decode cX12_waitsOn 64 = .ok (.iadd, 1) := by decide +kernel
theorem dX12_waitsOn_65 : decode cX12_waitsOn 65 = .ok (.aload_n 0, 1) := by decide +kernel
theorem dX12_waitsOn_66 : decode cX12_waitsOn 66 = .ok (.getfield 173, 3) := by decide +kernel
theorem dX12_waitsOn_69 : decode cX12_waitsOn 69 = .ok (.iload_n 1, 1) := by decide +kernel
theorem dX12_waitsOn_70 : decode cX12_waitsOn 70 = .ok (.laload, 1) := by decide +kernel
theorem dX12_waitsOn_71 : decode cX12_waitsOn 71 = .ok (.invokevirtual 466, 3) := by decide +kernel
theorem dX12_waitsOn_74 : decode cX12_waitsOn 74 = .ok (.return_, 1) := by decide +kernel
theorem dX12_waitsOn_75 : decode cX12_waitsOn 75 = .ok (.aload_n 0, 1) := by decide +kernel
theorem dX12_waitsOn_76 : decode cX12_waitsOn 76 = .ok (.getfield 167, 3) := by decide +kernel
theorem dX12_waitsOn_79 : decode cX12_waitsOn 79 = .ok (.iload_n 1, 1) := by decide +kernel
theorem dX12_waitsOn_80 : decode cX12_waitsOn 80 = .ok (.iaload, 1) := by decide +kernel
theorem dX12_waitsOn_81 : decode cX12_waitsOn 81 = .ok (.iload_n 2, 1) := by decide +kernel
theorem dX12_waitsOn_82 : decode cX12_waitsOn 82 = .ok (.if_icmp .ge 12, 3) := by decide +kernel
theorem dX12_waitsOn_85 : decode cX12_waitsOn 85 = .ok (.aload_n 0, 1) := by decide +kernel
theorem dX12_waitsOn_86 : decode cX12_waitsOn 86 = .ok (.getfield 186, 3) := by decide +kernel
theorem dX12_waitsOn_89 : decode cX12_waitsOn 89 = .ok (.iload_n 1, 1) := by decide +kernel
theorem dX12_waitsOn_90 : decode cX12_waitsOn 90 = .ok (.laload, 1) := by decide +kernel
theorem dX12_waitsOn_91 : decode cX12_waitsOn 91 = .ok (.goto 4, 3) := by decide +kernel
theorem dX12_waitsOn_94 : decode cX12_waitsOn 94 = .ok (.lconst 0, 1) := by decide +kernel
theorem dX12_waitsOn_95 : decode cX12_waitsOn 95 = .ok (.lstore 4, 2) := by decide +kernel
theorem dX12_waitsOn_97 : decode cX12_waitsOn 97 = .ok (.aload_n 0, 1) := by decide +kernel
theorem dX12_waitsOn_98 : decode cX12_waitsOn 98 = .ok (.aload_n 0, 1) := by decide +kernel
theorem dX12_waitsOn_99 : decode cX12_waitsOn 99 = .ok (.getfield 182, 3) := by decide +kernel
theorem dX12_waitsOn_102 : decode cX12_waitsOn 102 = .ok (.iload_n 1, 1) := by decide +kernel
theorem dX12_waitsOn_103 : decode cX12_waitsOn 103 = .ok (.baload, 1) := by decide +kernel
theorem dX12_waitsOn_104 : decode cX12_waitsOn 104 = .ok (.ifCond .eq 22, 3) := by decide +kernel
theorem dX12_waitsOn_107 : decode cX12_waitsOn 107 = .ok (.aload_n 0, 1) := by decide +kernel
theorem dX12_waitsOn_108 : decode cX12_waitsOn 108 = .ok (.iload_n 3, 1) := by decide +kernel
theorem dX12_waitsOn_109 : decode cX12_waitsOn 109 = .ok (.invokevirtual 413, 3) := by decide +kernel
theorem dX12_waitsOn_112 : decode cX12_waitsOn 112 = .ok (.aload_n 0, 1) := by decide +kernel
theorem dX12_waitsOn_113 : decode cX12_waitsOn 113 = .ok (.getfield 179, 3) := by decide +kernel
theorem dX12_waitsOn_116 : decode cX12_waitsOn 116 = .ok (.iload_n 1, 1) := by decide +kernel
theorem dX12_waitsOn_117 : decode cX12_waitsOn 117 = .ok (.laload, 1) := by decide +kernel
theorem dX12_waitsOn_118 : decode cX12_waitsOn 118 = .ok (.lload 4, 2) := by decide +kernel
theorem dX12_waitsOn_120 : decode cX12_waitsOn 120 = .ok (.invokestatic 470, 3) := by decide +kernel
theorem dX12_waitsOn_123 : decode cX12_waitsOn 123 = .ok (.goto 5, 3) := by decide +kernel
theorem dX12_waitsOn_126 : decode cX12_waitsOn 126 = .ok (.lload 4, 2) := by decide +kernel
theorem dX12_waitsOn_128 : decode cX12_waitsOn 128 = .ok (.invokevirtual 456, 3) := by decide +kernel
theorem dX12_waitsOn_131 : decode cX12_waitsOn 131 = .ok (.return_, 1) := by decide +kernel
theorem dX12_goesOn_0 : decode cX12_goesOn 0 = .ok (.aload_n 0, 1) := by decide +kernel
theorem dX12_goesOn_1 : decode cX12_goesOn 1 = .ok (.getfield 164, 3) := by decide +kernel
theorem dX12_goesOn_4 : decode cX12_goesOn 4 = .ok (.iload_n 1, 1) := by decide +kernel
theorem dX12_goesOn_5 : decode cX12_goesOn 5 = .ok (.iaload, 1) := by decide +kernel
theorem dX12_goesOn_6 : decode cX12_goesOn 6 = .ok (.istore 4, 2) := by decide +kernel
theorem dX12_goesOn_8 : decode cX12_goesOn 8 = .ok (.aload_n 0, 1) := by decide +kernel
theorem dX12_goesOn_9 : decode cX12_goesOn 9 = .ok (.getfield 176, 3) := by decide +kernel
theorem dX12_goesOn_12 : decode cX12_goesOn 12 = .ok (.iload_n 1, 1) := by decide +kernel
theorem dX12_goesOn_13 : decode cX12_goesOn 13 = .ok (.iaload, 1) := by decide +kernel
theorem dX12_goesOn_14 : decode cX12_goesOn 14 = .ok (.iconst 1, 1) := by decide +kernel
theorem dX12_goesOn_15 : decode cX12_goesOn 15 = .ok (.if_icmp .ne 103, 3) := by decide +kernel
theorem dX12_goesOn_18 : decode cX12_goesOn 18 = .ok (.aload_n 0, 1) := by decide +kernel
theorem dX12_goesOn_19 : decode cX12_goesOn 19 = .ok (.getfield 179, 3) := by decide +kernel
theorem dX12_goesOn_22 : decode cX12_goesOn 22 = .ok (.iload_n 1, 1) := by decide +kernel
theorem dX12_goesOn_23 : decode cX12_goesOn 23 = .ok (.aload_n 0, 1) := by decide +kernel
theorem dX12_goesOn_24 : decode cX12_goesOn 24 = .ok (.getfield 450, 3) := by decide +kernel
theorem dX12_goesOn_27 : decode cX12_goesOn 27 = .ok (.lastore, 1) := by decide +kernel
theorem dX12_goesOn_28 : decode cX12_goesOn 28 = .ok (.aload_n 0, 1) := by decide +kernel
theorem dX12_goesOn_29 : decode cX12_goesOn 29 = .ok (.getfield 176, 3) := by decide +kernel
theorem dX12_goesOn_32 : decode cX12_goesOn 32 = .ok (.iload_n 1, 1) := by decide +kernel
theorem dX12_goesOn_33 : decode cX12_goesOn 33 = .ok (.aload_n 0, 1) := by decide +kernel
theorem dX12_goesOn_34 : decode cX12_goesOn 34 = .ok (.getfield 20, 3) := by decide +kernel
theorem dX12_goesOn_37 : decode cX12_goesOn 37 = .ok (.iload 4, 2) := by decide +kernel
theorem dX12_goesOn_39 : decode cX12_goesOn 39 = .ok (.iaload, 1) := by decide +kernel
theorem dX12_goesOn_40 : decode cX12_goesOn 40 = .ok (.bipush 7, 2) := by decide +kernel
theorem dX12_goesOn_42 : decode cX12_goesOn 42 = .ok (.if_icmp .ne 7, 3) := by decide +kernel
theorem dX12_goesOn_45 : decode cX12_goesOn 45 = .ok (.iconst 3, 1) := by decide +kernel
theorem dX12_goesOn_46 : decode cX12_goesOn 46 = .ok (.goto 4, 3) := by decide +kernel
theorem dX12_goesOn_49 : decode cX12_goesOn 49 = .ok (.iconst 2, 1) := by decide +kernel
theorem dX12_goesOn_50 : decode cX12_goesOn 50 = .ok (.iastore, 1) := by decide +kernel
theorem dX12_goesOn_51 : decode cX12_goesOn 51 = .ok (.aload_n 0, 1) := by decide +kernel
theorem dX12_goesOn_52 : decode cX12_goesOn 52 = .ok (.getfield 182, 3) := by decide +kernel
theorem dX12_goesOn_55 : decode cX12_goesOn 55 = .ok (.iload_n 1, 1) := by decide +kernel
theorem dX12_goesOn_56 : decode cX12_goesOn 56 = .ok (.aload_n 0, 1) := by decide +kernel
theorem dX12_goesOn_57 : decode cX12_goesOn 57 = .ok (.getfield 20, 3) := by decide +kernel
theorem dX12_goesOn_60 : decode cX12_goesOn 60 = .ok (.iload 4, 2) := by decide +kernel
theorem dX12_goesOn_62 : decode cX12_goesOn 62 = .ok (.iaload, 1) := by decide +kernel
theorem dX12_goesOn_63 : decode cX12_goesOn 63 = .ok (.bipush 7, 2) := by decide +kernel
theorem dX12_goesOn_65 : decode cX12_goesOn 65 = .ok (.if_icmp .ne 7, 3) := by decide +kernel
theorem dX12_goesOn_68 : decode cX12_goesOn 68 = .ok (.iconst 1, 1) := by decide +kernel
theorem dX12_goesOn_69 : decode cX12_goesOn 69 = .ok (.goto 4, 3) := by decide +kernel
theorem dX12_goesOn_72 : decode cX12_goesOn 72 = .ok (.iconst 0, 1) := by decide +kernel
theorem dX12_goesOn_73 : decode cX12_goesOn 73 = .ok (.bastore, 1) := by decide +kernel
theorem dX12_goesOn_74 : decode cX12_goesOn 74 = .ok (.aload_n 0, 1) := by decide +kernel
theorem dX12_goesOn_75 : decode cX12_goesOn 75 = .ok (.getfield 20, 3) := by decide +kernel
theorem dX12_goesOn_78 : decode cX12_goesOn 78 = .ok (.iload 4, 2) := by decide +kernel
theorem dX12_goesOn_80 : decode cX12_goesOn 80 = .ok (.iaload, 1) := by decide +kernel
theorem dX12_goesOn_81 : decode cX12_goesOn 81 = .ok (.bipush 7, 2) := by decide +kernel
theorem dX12_goesOn_83 : decode cX12_goesOn 83 = .ok (.if_icmp .eq 242, 3) := by decide +kernel
theorem dX12_goesOn_86 : decode cX12_goesOn 86 = .ok (.aload_n 0, 1) := by decide +kernel
theorem dX12_goesOn_87 : decode cX12_goesOn 87 = .ok (.aload_n 0, 1) := by decide +kernel
theorem dX12_goesOn_88 : decode cX12_goesOn 88 = .ok (.getfield 35, 3) := by decide +kernel
theorem dX12_goesOn_91 : decode cX12_goesOn 91 = .ok (.iload 4, 2) := by decide +kernel
theorem dX12_goesOn_93 : decode cX12_goesOn 93 = .ok (.iaload, 1) := by decide +kernel
theorem dX12_goesOn_94 : decode cX12_goesOn 94 = .ok (.aload_n 0, 1) := by decide +kernel
theorem dX12_goesOn_95 : decode cX12_goesOn 95 = .ok (.getfield 167, 3) := by decide +kernel
theorem dX12_goesOn_98 : decode cX12_goesOn 98 = .ok (.iload_n 1, 1) := by decide +kernel
theorem dX12_goesOn_99 : decode cX12_goesOn 99 = .ok (.iaload, 1) := by decide +kernel
theorem dX12_goesOn_100 : decode cX12_goesOn 100 = .ok (.aload_n 0, 1) := by decide +kernel
theorem dX12_goesOn_101 : decode cX12_goesOn 101 = .ok (.getfield 170, 3) := by decide +kernel
theorem dX12_goesOn_104 : decode cX12_goesOn 104 = .ok (.iload_n 1, 1) := by decide +kernel
theorem dX12_goesOn_105 : decode cX12_goesOn 105 = .ok (.iaload, 1) := by decide +kernel
theorem dX12_goesOn_106 : decode cX12_goesOn 106 = .ok (.aload_n 0, 1) := by decide +kernel
theorem dX12_goesOn_107 : decode cX12_goesOn 107 = .ok (.getfield 173, 3) := by decide +kernel
theorem dX12_goesOn_110 : decode cX12_goesOn 110 = .ok (.iload_n 1, 1) := by decide +kernel
theorem dX12_goesOn_111 : decode cX12_goesOn 111 = .ok (.laload, 1) := by decide +kernel
theorem dX12_goesOn_112 : decode cX12_goesOn 112 = .ok (.invokevirtual 466, 3) := by decide +kernel
theorem dX12_goesOn_115 : decode cX12_goesOn 115 = .ok (.goto 210, 3) := by decide +kernel
theorem dX12_goesOn_118 : decode cX12_goesOn 118 = .ok (.aload_n 0, 1) := by decide +kernel
theorem dX12_goesOn_119 : decode cX12_goesOn 119 = .ok (.getfield 176, 3) := by decide +kernel
theorem dX12_goesOn_122 : decode cX12_goesOn 122 = .ok (.iload_n 1, 1) := by decide +kernel
theorem dX12_goesOn_123 : decode cX12_goesOn 123 = .ok (.iaload, 1) := by decide +kernel
theorem dX12_goesOn_124 : decode cX12_goesOn 124 = .ok (.iconst 2, 1) := by decide +kernel
theorem dX12_goesOn_125 : decode cX12_goesOn 125 = .ok (.if_icmp .ne 54, 3) := by decide +kernel
theorem dX12_goesOn_128 : decode cX12_goesOn 128 = .ok (.aload_n 0, 1) := by decide +kernel
theorem dX12_goesOn_129 : decode cX12_goesOn 129 = .ok (.aload_n 0, 1) := by decide +kernel
theorem dX12_goesOn_130 : decode cX12_goesOn 130 = .ok (.getfield 20, 3) := by decide +kernel
theorem dX12_goesOn_133 : decode cX12_goesOn 133 = .ok (.iload 4, 2) := by decide +kernel
theorem dX12_goesOn_135 : decode cX12_goesOn 135 = .ok (.iaload, 1) := by decide +kernel
theorem dX12_goesOn_136 : decode cX12_goesOn 136 = .ok (.iconst 3, 1) := by decide +kernel
theorem dX12_goesOn_137 : decode cX12_goesOn 137 = .ok (.if_icmp .ne 17, 3) := by decide +kernel
theorem dX12_goesOn_140 : decode cX12_goesOn 140 = .ok (.aload_n 0, 1) := by decide +kernel
theorem dX12_goesOn_141 : decode cX12_goesOn 141 = .ok (.getfield 179, 3) := by decide +kernel
theorem dX12_goesOn_144 : decode cX12_goesOn 144 = .ok (.iload_n 1, 1) := by decide +kernel
theorem dX12_goesOn_145 : decode cX12_goesOn 145 = .ok (.laload, 1) := by decide +kernel
theorem dX12_goesOn_146 : decode cX12_goesOn 146 = .ok (.aload_n 0, 1) := by decide +kernel
theorem dX12_goesOn_147 : decode cX12_goesOn 147 = .ok (.getfield 450, 3) := by decide +kernel
theorem dX12_goesOn_150 : decode cX12_goesOn 150 = .ok (.ladd, 1) := by decide +kernel
theorem dX12_goesOn_151 : decode cX12_goesOn 151 = .ok (.goto 22, 3) := by decide +kernel
theorem dX12_goesOn_154 : decode cX12_goesOn 154 = .ok (.aload_n 0, 1) := by decide +kernel
theorem dX12_goesOn_155 : decode cX12_goesOn 155 = .ok (.iload 4, 2) := by decide +kernel
theorem dX12_goesOn_157 : decode cX12_goesOn 157 = .ok (.invokevirtual 413, 3) := by decide +kernel
theorem dX12_goesOn_160 : decode cX12_goesOn 160 = .ok (.aload_n 0, 1) := by decide +kernel
theorem dX12_goesOn_161 : decode cX12_goesOn 161 = .ok (.getfield 179, 3) := by decide +kernel
theorem dX12_goesOn_164 : decode cX12_goesOn 164 = .ok (.iload_n 1, 1) := by decide +kernel
theorem dX12_goesOn_165 : decode cX12_goesOn 165 = .ok (.laload, 1) := by decide +kernel
theorem dX12_goesOn_166 : decode cX12_goesOn 166 = .ok (.aload_n 0, 1) := by decide +kernel
theorem dX12_goesOn_167 : decode cX12_goesOn 167 = .ok (.getfield 450, 3) := by decide +kernel
theorem dX12_goesOn_170 : decode cX12_goesOn 170 = .ok (.invokestatic 470, 3) := by decide +kernel
theorem dX12_goesOn_173 : decode cX12_goesOn 173 = .ok (.invokevirtual 456, 3) := by decide +kernel
theorem dX12_goesOn_176 : decode cX12_goesOn 176 = .ok (.goto 149, 3) := by decide +kernel
theorem dX12_goesOn_179 : decode cX12_goesOn 179 = .ok (.aload_n 0, 1) := by decide +kernel
theorem dX12_goesOn_180 : decode cX12_goesOn 180 = .ok (.getfield 176, 3) := by decide +kernel
theorem dX12_goesOn_183 : decode cX12_goesOn 183 = .ok (.iload_n 1, 1) := by decide +kernel
theorem dX12_goesOn_184 : decode cX12_goesOn 184 = .ok (.iaload, 1) := by decide +kernel
theorem dX12_goesOn_185 : decode cX12_goesOn 185 = .ok (.iconst 3, 1) := by decide +kernel
theorem dX12_goesOn_186 : decode cX12_goesOn 186 = .ok (.if_icmp .ne 26, 3) := by decide +kernel
theorem dX12_goesOn_189 : decode cX12_goesOn 189 = .ok (.aload_n 0, 1) := by decide +kernel
theorem dX12_goesOn_190 : decode cX12_goesOn 190 = .ok (.getfield 189, 3) := by decide +kernel
theorem dX12_goesOn_193 : decode cX12_goesOn 193 = .ok (.iload_n 1, 1) := by decide +kernel
theorem dX12_goesOn_194 : decode cX12_goesOn 194 = .ok (.iconst 0, 1) := by decide +kernel
theorem dX12_goesOn_195 : decode cX12_goesOn 195 = .ok (.iastore, 1) := by decide +kernel
theorem dX12_goesOn_196 : decode cX12_goesOn 196 = .ok (.aload_n 0, 1) := by decide +kernel
theorem dX12_goesOn_197 : decode cX12_goesOn 197 = .ok (.getfield 186, 3) := by decide +kernel
theorem dX12_goesOn_200 : decode cX12_goesOn 200 = .ok (.iload_n 1, 1) := by decide +kernel
theorem dX12_goesOn_201 : decode cX12_goesOn 201 = .ok (.lconst 0, 1) := by decide +kernel
theorem dX12_goesOn_202 : decode cX12_goesOn 202 = .ok (.lastore, 1) := by decide +kernel
theorem dX12_goesOn_203 : decode cX12_goesOn 203 = .ok (.aload_n 0, 1) := by decide +kernel
theorem dX12_goesOn_204 : decode cX12_goesOn 204 = .ok (.iload_n 1, 1) := by decide +kernel
theorem dX12_goesOn_205 : decode cX12_goesOn 205 = .ok (.iload_n 2, 1) := by decide +kernel
theorem dX12_goesOn_206 : decode cX12_goesOn 206 = .ok (.invokevirtual 474, 3) := by decide +kernel
theorem dX12_goesOn_209 : decode cX12_goesOn 209 = .ok (.goto 116, 3) := by decide +kernel
theorem dX12_goesOn_212 : decode cX12_goesOn 212 = .ok (.iload_n 3, 1) := by decide +kernel
theorem dX12_goesOn_213 : decode cX12_goesOn 213 = .ok (.ifCond .ne 23, 3) := by decide +kernel
theorem dX12_goesOn_216 : decode cX12_goesOn 216 = .ok (.aload_n 0, 1) := by decide +kernel
theorem dX12_goesOn_217 : decode cX12_goesOn 217 = .ok (.getfield 155, 3) := by decide +kernel
theorem dX12_goesOn_220 : decode cX12_goesOn 220 = .ok (.aload_n 0, 1) := by decide +kernel
theorem dX12_goesOn_221 : decode cX12_goesOn 221 = .ok (.getfield 189, 3) := by decide +kernel
theorem dX12_goesOn_224 : decode cX12_goesOn 224 = .ok (.iload_n 1, 1) := by decide +kernel
theorem dX12_goesOn_225 : decode cX12_goesOn 225 = .ok (.iaload, 1) := by decide +kernel
theorem dX12_goesOn_226 : decode cX12_goesOn 226 = .ok (.iaload, 1) := by decide +kernel
theorem dX12_goesOn_227 : decode cX12_goesOn 227 = .ok (.i2l, 1) := by decide +kernel
theorem dX12_goesOn_228 : decode cX12_goesOn 228 = .ok (.aload_n 0, 1) := by decide +kernel
theorem dX12_goesOn_229 : decode cX12_goesOn 229 = .ok (.getfield 450, 3) := by decide +kernel
theorem dX12_goesOn_232 : decode cX12_goesOn 232 = .ok (.lmul, 1) := by decide +kernel
theorem dX12_goesOn_233 : decode cX12_goesOn 233 = .ok (.goto 7, 3) := by decide +kernel
theorem dX12_goesOn_236 : decode cX12_goesOn 236 = .ok (.aload_n 0, 1) := by decide +kernel
theorem dX12_goesOn_237 : decode cX12_goesOn 237 = .ok (.getfield 450, 3) := by decide +kernel
theorem dX12_goesOn_240 : decode cX12_goesOn 240 = .ok (.lstore 5, 2) := by decide +kernel
theorem dX12_goesOn_242 : decode cX12_goesOn 242 = .ok (.iload_n 3, 1) := by decide +kernel
theorem dX12_goesOn_243 : decode cX12_goesOn 243 = .ok (.ifCond .ne 17, 3) := by decide +kernel
theorem dX12_goesOn_246 : decode cX12_goesOn 246 = .ok (.aload_n 0, 1) := by decide +kernel
theorem dX12_goesOn_247 : decode cX12_goesOn 247 = .ok (.getfield 186, 3) := by decide +kernel
theorem dX12_goesOn_250 : decode cX12_goesOn 250 = .ok (.iload_n 1, 1) := by decide +kernel
theorem dX12_goesOn_251 : decode cX12_goesOn 251 = .ok (.dup2, 1) := by decide +kernel
theorem dX12_goesOn_252 : decode cX12_goesOn 252 = .ok (.laload, 1) := by decide +kernel
theorem dX12_goesOn_253 : decode cX12_goesOn 253 = .ok (.lload 5, 2) := by decide +kernel
theorem dX12_goesOn_255 : decode cX12_goesOn 255 = .ok (.ladd, 1) := by decide +kernel
theorem dX12_goesOn_256 : decode cX12_goesOn 256 = .ok (.lastore, 1) := by decide +kernel
theorem dX12_goesOn_257 : decode cX12_goesOn 257 = .ok (.goto 52, 3) := by decide +kernel
theorem dX12_goesOn_260 : decode cX12_goesOn 260 = .ok (.aload_n 0, 1) := by decide +kernel
theorem dX12_goesOn_261 : decode cX12_goesOn 261 = .ok (.getfield 189, 3) := by decide +kernel
theorem dX12_goesOn_264 : decode cX12_goesOn 264 = .ok (.iload_n 1, 1) := by decide +kernel
theorem dX12_goesOn_265 : decode cX12_goesOn 265 = .ok (.iaload, 1) := by decide +kernel
theorem dX12_goesOn_266 : decode cX12_goesOn 266 = .ok (.ifCond .eq 35, 3) := by decide +kernel
theorem dX12_goesOn_269 : decode cX12_goesOn 269 = .ok (.iload_n 3, 1) := by decide +kernel
theorem dX12_goesOn_270 : decode cX12_goesOn 270 = .ok (.iconst 1, 1) := by decide +kernel
theorem dX12_goesOn_271 : decode cX12_goesOn 271 = .ok (.if_icmp .ne 18, 3) := by decide +kernel
theorem dX12_goesOn_274 : decode cX12_goesOn 274 = .ok (.lload 5, 2) := by decide +kernel
theorem dX12_goesOn_276 : decode cX12_goesOn 276 = .ok (.aload_n 0, 1) := by decide +kernel
theorem dX12_goesOn_277 : decode cX12_goesOn 277 = .ok (.getfield 186, 3) := by decide +kernel
theorem dX12_goesOn_280 : decode cX12_goesOn 280 = .ok (.iload_n 1, 1) := by decide +kernel
theorem dX12_goesOn_281 : decode cX12_goesOn 281 = .ok (.laload, 1) := by decide +kernel
theorem dX12_goesOn_282 : decode cX12_goesOn 282 = .ok (.lcmp, 1) := by decide +kernel
theorem dX12_goesOn_283 : decode cX12_goesOn 283 = .ok (.ifCond .ge 26, 3) := by decide +kernel
theorem dX12_goesOn_286 : decode cX12_goesOn 286 = .ok (.goto 15, 3) := by decide +kernel
theorem dX12_goesOn_289 : decode cX12_goesOn 289 = .ok (.lload 5, 2) := by decide +kernel
theorem dX12_goesOn_291 : decode cX12_goesOn 291 = .ok (.aload_n 0, 1) := by decide +kernel
theorem dX12_goesOn_292 : decode cX12_goesOn 292 = .ok (.getfield 186, 3) := by decide +kernel
theorem dX12_goesOn_295 : decode cX12_goesOn 295 = .ok (.iload_n 1, 1) := by decide +kernel
theorem dX12_goesOn_296 : decode cX12_goesOn 296 = .ok (.laload, 1) := by decide +kernel
theorem dX12_goesOn_297 : decode cX12_goesOn 297 = .ok (.lcmp, 1) := by decide +kernel
theorem dX12_goesOn_298 : decode cX12_goesOn 298 = .ok (.ifCond .le 11, 3) := by decide +kernel
theorem dX12_goesOn_301 : decode cX12_goesOn 301 = .ok (.aload_n 0, 1) := by decide +kernel
theorem dX12_goesOn_302 : decode cX12_goesOn 302 = .ok (.getfield 186, 3) := by decide +kernel
theorem dX12_goesOn_305 : decode cX12_goesOn 305 = .ok (.iload_n 1, 1) := by decide +kernel
theorem dX12_goesOn_306 : decode cX12_goesOn 306 = .ok (.lload 5, 2) := by decide +kernel
theorem dX12_goesOn_308 : decode cX12_goesOn 308 = .ok (.lastore, 1) := by decide +kernel
theorem dX12_goesOn_309 : decode cX12_goesOn 309 = .ok (.aload_n 0, 1) := by decide +kernel
theorem dX12_goesOn_310 : decode cX12_goesOn 310 = .ok (.getfield 189, 3) := by decide +kernel
theorem dX12_goesOn_313 : decode cX12_goesOn 313 = .ok (.iload_n 1, 1) := by decide +kernel
theorem dX12_goesOn_314 : decode cX12_goesOn 314 = .ok (.dup2, 1) := by decide +kernel
theorem dX12_goesOn_315 : decode cX12_goesOn 315 = .ok (.iaload, 1) := by decide +kernel
theorem dX12_goesOn_316 : decode cX12_goesOn 316 = .ok (.iconst 1, 1) := by decide +kernel
theorem dX12_goesOn_317 : decode cX12_goesOn 317 = .ok (.iadd, 1) := by decide +kernel
theorem dX12_goesOn_318 : decode cX12_goesOn 318 = .ok (.iastore, 1) := by decide +kernel
theorem dX12_goesOn_319 : decode cX12_goesOn 319 = .ok (.aload_n 0, 1) := by decide +kernel
theorem dX12_goesOn_320 : decode cX12_goesOn 320 = .ok (.iload_n 1, 1) := by decide +kernel
theorem dX12_goesOn_321 : decode cX12_goesOn 321 = .ok (.iload_n 2, 1) := by decide +kernel
theorem dX12_goesOn_322 : decode cX12_goesOn 322 = .ok (.invokevirtual 474, 3) := by decide +kernel
theorem dX12_goesOn_325 : decode cX12_goesOn 325 = .ok (.return_, 1) := by decide +kernel
theorem dX12_worth_0 : decode cX12_worth 0 = .ok (.aload_n 0, 1) := by decide +kernel
theorem dX12_worth_1 : decode cX12_worth 1 = .ok (.iload_n 1, 1) := by decide +kernel
theorem dX12_worth_2 : decode cX12_worth 2 = .ok (.invokevirtual 337, 3) := by decide +kernel
theorem dX12_worth_5 : decode cX12_worth 5 = .ok (.ifCond .eq 27, 3) := by decide +kernel
theorem dX12_worth_8 : decode cX12_worth 8 = .ok (.iload_n 2, 1) := by decide +kernel
theorem dX12_worth_9 : decode cX12_worth 9 = .ok (.i2l, 1) := by decide +kernel
theorem dX12_worth_10 : decode cX12_worth 10 = .ok (.lconst 1, 1) := by decide +kernel
theorem dX12_worth_11 : decode cX12_worth 11 = .ok (.ldc2_w 441, 3) := by decide +kernel
theorem dX12_worth_14 : decode cX12_worth 14 = .ok (.invokestatic 245, 3) := by decide +kernel
theorem dX12_worth_17 : decode cX12_worth 17 = .ok (.ifCond .eq 15, 3) := by decide +kernel
theorem dX12_worth_20 : decode cX12_worth 20 = .ok (.iload_n 3, 1) := by decide +kernel
theorem dX12_worth_21 : decode cX12_worth 21 = .ok (.i2l, 1) := by decide +kernel
theorem dX12_worth_22 : decode cX12_worth 22 = .ok (.lconst 0, 1) := by decide +kernel
theorem dX12_worth_23 : decode cX12_worth 23 = .ok (.ldc2_w 439, 3) := by decide +kernel
theorem dX12_worth_26 : decode cX12_worth 26 = .ok (.invokestatic 245, 3) := by decide +kernel
theorem dX12_worth_29 : decode cX12_worth 29 = .ok (.ifCond .ne 7, 3) := by decide +kernel
theorem dX12_worth_32 : decode cX12_worth 32 = .ok (.ldc2_w 477, 3) := by decide +kernel
theorem dX12_worth_35 : decode cX12_worth 35 = .ok (.lreturn, 1) := by decide +kernel
theorem dX12_worth_36 : decode cX12_worth 36 = .ok (.iload_n 3, 1) := by decide +kernel
theorem dX12_worth_37 : decode cX12_worth 37 = .ok (.iconst 3, 1) := by decide +kernel
theorem dX12_worth_38 : decode cX12_worth 38 = .ok (.if_icmp .ne 13, 3) := by decide +kernel
theorem dX12_worth_41 : decode cX12_worth 41 = .ok (.aload_n 0, 1) := by decide +kernel
theorem dX12_worth_42 : decode cX12_worth 42 = .ok (.invokevirtual 460, 3) := by decide +kernel
theorem dX12_worth_45 : decode cX12_worth 45 = .ok (.iload_n 2, 1) := by decide +kernel
theorem dX12_worth_46 : decode cX12_worth 46 = .ok (.invokestatic 463, 3) := by decide +kernel
theorem dX12_worth_49 : decode cX12_worth 49 = .ok (.i2l, 1) := by decide +kernel
theorem dX12_worth_50 : decode cX12_worth 50 = .ok (.lreturn, 1) := by decide +kernel
theorem dX12_worth_51 : decode cX12_worth 51 = .ok (.aload_n 0, 1) := by decide +kernel
theorem dX12_worth_52 : decode cX12_worth 52 = .ok (.invokevirtual 479, 3) := by decide +kernel
theorem dX12_worth_55 : decode cX12_worth 55 = .ok (.aload_n 0, 1) := by decide +kernel
theorem dX12_worth_56 : decode cX12_worth 56 = .ok (.iconst 0, 1) := by decide +kernel
theorem dX12_worth_57 : decode cX12_worth 57 = .ok (.putfield 447, 3) := by decide +kernel
theorem dX12_worth_60 : decode cX12_worth 60 = .ok (.aload_n 0, 1) := by decide +kernel
theorem dX12_worth_61 : decode cX12_worth 61 = .ok (.bipush 40, 2) := by decide +kernel
theorem dX12_worth_63 : decode cX12_worth 63 = .ok (.iload_n 1, 1) := by decide +kernel
theorem dX12_worth_64 : decode cX12_worth 64 = .ok (.imul, 1) := by decide +kernel
theorem dX12_worth_65 : decode cX12_worth 65 = .ok (.iconst 0, 1) := by decide +kernel
theorem dX12_worth_66 : decode cX12_worth 66 = .ok (.iconst 0, 1) := by decide +kernel
theorem dX12_worth_67 : decode cX12_worth 67 = .ok (.lconst 1, 1) := by decide +kernel
theorem dX12_worth_68 : decode cX12_worth 68 = .ok (.invokevirtual 466, 3) := by decide +kernel
theorem dX12_worth_71 : decode cX12_worth 71 = .ok (.aload_n 0, 1) := by decide +kernel
theorem dX12_worth_72 : decode cX12_worth 72 = .ok (.getfield 447, 3) := by decide +kernel
theorem dX12_worth_75 : decode cX12_worth 75 = .ok (.ifCond .le 43, 3) := by decide +kernel
theorem dX12_worth_78 : decode cX12_worth 78 = .ok (.aload_n 0, 1) := by decide +kernel
theorem dX12_worth_79 : decode cX12_worth 79 = .ok (.getfield 447, 3) := by decide +kernel
theorem dX12_worth_82 : decode cX12_worth 82 = .ok (.iconst 1, 1) := by decide +kernel
theorem dX12_worth_83 : decode cX12_worth 83 = .ok (.isub, 1) := by decide +kernel
theorem dX12_worth_84 : decode cX12_worth 84 = .ok (.istore 4, 2) := by decide +kernel
theorem dX12_worth_86 : decode cX12_worth 86 = .ok (.aload_n 0, 1) := by decide +kernel
theorem dX12_worth_87 : decode cX12_worth 87 = .ok (.getfield 176, 3) := by decide +kernel
theorem dX12_worth_90 : decode cX12_worth 90 = .ok (.iload 4, 2) := by decide +kernel
theorem dX12_worth_92 : decode cX12_worth 92 = .ok (.iaload, 1) := by decide +kernel
theorem dX12_worth_93 : decode cX12_worth 93 = .ok (.ifCond .ne 14, 3) := by decide +kernel
theorem dX12_worth_96 : decode cX12_worth 96 = .ok (.aload_n 0, 1) := by decide +kernel
theorem dX12_worth_97 : decode cX12_worth 97 = .ok (.iload 4, 2) := by decide +kernel
theorem dX12_worth_99 : decode cX12_worth 99 = .ok (.iload_n 2, 1) := by decide +kernel
theorem dX12_worth_100 : decode cX12_worth 100 = .ok (.iload_n 3, 1) := by decide +kernel
theorem dX12_worth_101 : decode cX12_worth 101 = .ok (.invokevirtual 482, 3) := by decide +kernel
theorem dX12_worth_104 : decode cX12_worth 104 = .ok (.goto 11, 3) := by decide +kernel
theorem dX12_worth_107 : decode cX12_worth 107 = .ok (.aload_n 0, 1) := by decide +kernel
theorem dX12_worth_108 : decode cX12_worth 108 = .ok (.iload 4, 2) := by decide +kernel
theorem dX12_worth_110 : decode cX12_worth 110 = .ok (.iload_n 2, 1) := by decide +kernel
theorem dX12_worth_111 : decode cX12_worth 111 = .ok (.iload_n 3, 1) := by decide +kernel
theorem dX12_worth_112 : decode cX12_worth 112 = .ok (.invokevirtual 486, 3) := by decide +kernel
theorem dX12_worth_115 : decode cX12_worth 115 = .ok (.goto (-44), 3) := by decide +kernel
theorem dX12_worth_118 : decode cX12_worth 118 = .ok (.aload_n 0, 1) := by decide +kernel
theorem dX12_worth_119 : decode cX12_worth 119 = .ok (.getfield 450, 3) := by decide +kernel
theorem dX12_worth_122 : decode cX12_worth 122 = .ok (.lreturn, 1) := by decide +kernel
theorem dX12_reaches_0 : decode cX12_reaches 0 = .ok (.bipush 81, 2) := by decide +kernel
theorem dX12_reaches_2 : decode cX12_reaches 2 = .ok (.iconst 5, 1) := by decide +kernel
theorem dX12_reaches_3 : decode cX12_reaches 3 = .ok (.iload_n 1, 1) := by decide +kernel
theorem dX12_reaches_4 : decode cX12_reaches 4 = .ok (.imul, 1) := by decide +kernel
theorem dX12_reaches_5 : decode cX12_reaches 5 = .ok (.iload_n 2, 1) := by decide +kernel
theorem dX12_reaches_6 : decode cX12_reaches 6 = .ok (.iadd, 1) := by decide +kernel
theorem dX12_reaches_7 : decode cX12_reaches 7 = .ok (.imul, 1) := by decide +kernel
theorem dX12_reaches_8 : decode cX12_reaches 8 = .ok (.iload_n 3, 1) := by decide +kernel
theorem dX12_reaches_9 : decode cX12_reaches 9 = .ok (.iadd, 1) := by decide +kernel
theorem dX12_reaches_10 : decode cX12_reaches 10 = .ok (.istore 4, 2) := by decide +kernel
theorem dX12_reaches_12 : decode cX12_reaches 12 = .ok (.aload_n 0, 1) := by decide +kernel
theorem dX12_reaches_13 : decode cX12_reaches 13 = .ok (.getfield 195, 3) := by decide +kernel
theorem dX12_reaches_16 : decode cX12_reaches 16 = .ok (.iload 4, 2) := by decide +kernel
theorem dX12_reaches_18 : decode cX12_reaches 18 = .ok (.baload, 1) := by decide +kernel
theorem dX12_reaches_19 : decode cX12_reaches 19 = .ok (.ifCond .eq 4, 3) := by decide +kernel
theorem dX12_reaches_22 : decode cX12_reaches 22 = .ok (.return_, 1) := by decide +kernel
theorem dX12_reaches_23 : decode cX12_reaches 23 = .ok (.aload_n 0, 1) := by decide +kernel
theorem dX12_reaches_24 : decode cX12_reaches 24 = .ok (.getfield 195, 3) := by decide +kernel
theorem dX12_reaches_27 : decode cX12_reaches 27 = .ok (.iload 4, 2) := by decide +kernel
theorem dX12_reaches_29 : decode cX12_reaches 29 = .ok (.iconst 1, 1) := by decide +kernel
theorem dX12_reaches_30 : decode cX12_reaches 30 = .ok (.bastore, 1) := by decide +kernel
theorem dX12_reaches_31 : decode cX12_reaches 31 = .ok (.aload_n 0, 1) := by decide +kernel
theorem dX12_reaches_32 : decode cX12_reaches 32 = .ok (.getfield 198, 3) := by decide +kernel
theorem dX12_reaches_35 : decode cX12_reaches 35 = .ok (.aload_n 0, 1) := by decide +kernel
theorem dX12_reaches_36 : decode cX12_reaches 36 = .ok (.getfield 489, 3) := by decide +kernel
theorem dX12_reaches_39 : decode cX12_reaches 39 = .ok (.iload 4, 2) := by decide +kernel
theorem dX12_reaches_41 : decode cX12_reaches 41 = .ok (.iastore, 1) := by decide +kernel
theorem dX12_reaches_42 : decode cX12_reaches 42 = .ok (.aload_n 0, 1) := by decide +kernel
theorem dX12_reaches_43 : decode cX12_reaches 43 = .ok (.dup, 1) := by decide +kernel
theorem dX12_reaches_44 : decode cX12_reaches 44 = .ok (.getfield 489, 3) := by decide +kernel
theorem dX12_reaches_47 : decode cX12_reaches 47 = .ok (.iconst 1, 1) := by decide +kernel
theorem dX12_reaches_48 : decode cX12_reaches 48 = .ok (.iadd, 1) := by decide +kernel
theorem dX12_reaches_49 : decode cX12_reaches 49 = .ok (.putfield 489, 3) := by decide +kernel
theorem dX12_reaches_52 : decode cX12_reaches 52 = .ok (.return_, 1) := by decide +kernel
theorem dX12_comeTo_0 : decode cX12_comeTo 0 = .ok (.aload_n 0, 1) := by decide +kernel
theorem dX12_comeTo_1 : decode cX12_comeTo 1 = .ok (.iload_n 1, 1) := by decide +kernel
theorem dX12_comeTo_2 : decode cX12_comeTo 2 = .ok (.invokevirtual 337, 3) := by decide +kernel
theorem dX12_comeTo_5 : decode cX12_comeTo 5 = .ok (.ifCond .eq 33, 3) := by decide +kernel
theorem dX12_comeTo_8 : decode cX12_comeTo 8 = .ok (.iload_n 2, 1) := by decide +kernel
theorem dX12_comeTo_9 : decode cX12_comeTo 9 = .ok (.i2l, 1) := by decide +kernel
theorem dX12_comeTo_10 : decode cX12_comeTo 10 = .ok (.lconst 1, 1) := by decide +kernel
theorem dX12_comeTo_11 : decode cX12_comeTo 11 = .ok (.ldc2_w 441, 3) := by decide +kernel
theorem dX12_comeTo_14 : decode cX12_comeTo 14 = .ok (.invokestatic 245, 3) := by decide +kernel
theorem dX12_comeTo_17 : decode cX12_comeTo 17 = .ok (.ifCond .eq 21, 3) := by decide +kernel
theorem dX12_comeTo_20 : decode cX12_comeTo 20 = .ok (.iload_n 3, 1) := by decide +kernel
theorem dX12_comeTo_21 : decode cX12_comeTo 21 = .ok (.i2l, 1) := by decide +kernel
theorem dX12_comeTo_22 : decode cX12_comeTo 22 = .ok (.lconst 0, 1) := by decide +kernel
theorem dX12_comeTo_23 : decode cX12_comeTo 23 = .ok (.aload_n 0, 1) := by decide +kernel
theorem dX12_comeTo_24 : decode cX12_comeTo 24 = .ok (.getfield 17, 3) := by decide +kernel
theorem dX12_comeTo_27 : decode cX12_comeTo 27 = .ok (.iload_n 1, 1) := by decide +kernel
theorem dX12_comeTo_28 : decode cX12_comeTo 28 = .ok (.iaload, 1) := by decide +kernel
theorem dX12_comeTo_29 : decode cX12_comeTo 29 = .ok (.iconst 1, 1) := by decide +kernel
theorem dX12_comeTo_30 : decode cX12_comeTo 30 = .ok (.isub, 1) := by decide +kernel
theorem dX12_comeTo_31 : decode cX12_comeTo 31 = .ok (.i2l, 1) := by decide +kernel
theorem dX12_comeTo_32 : decode cX12_comeTo 32 = .ok (.invokestatic 245, 3) := by decide +kernel
theorem dX12_comeTo_35 : decode cX12_comeTo 35 = .ok (.ifCond .ne 5, 3) := by decide +kernel
theorem dX12_comeTo_38 : decode cX12_comeTo 38 = .ok (.iconst (-1), 1) := by decide +kernel
theorem dX12_comeTo_39 : decode cX12_comeTo 39 = .ok (.ireturn, 1) := by decide +kernel
theorem dX12_comeTo_40 : decode cX12_comeTo 40 = .ok (.bipush 40, 2) := by decide +kernel
theorem dX12_comeTo_42 : decode cX12_comeTo 42 = .ok (.iload_n 1, 1) := by decide +kernel
theorem dX12_comeTo_43 : decode cX12_comeTo 43 = .ok (.imul, 1) := by decide +kernel
theorem dX12_comeTo_44 : decode cX12_comeTo 44 = .ok (.iload_n 3, 1) := by decide +kernel
theorem dX12_comeTo_45 : decode cX12_comeTo 45 = .ok (.iadd, 1) := by decide +kernel
theorem dX12_comeTo_46 : decode cX12_comeTo 46 = .ok (.istore 4, 2) := by decide +kernel
theorem dX12_comeTo_48 : decode cX12_comeTo 48 = .ok (.aload_n 0, 1) := by decide +kernel
theorem dX12_comeTo_49 : decode cX12_comeTo 49 = .ok (.getfield 26, 3) := by decide +kernel
theorem dX12_comeTo_52 : decode cX12_comeTo 52 = .ok (.iload 4, 2) := by decide +kernel
theorem dX12_comeTo_54 : decode cX12_comeTo 54 = .ok (.iaload, 1) := by decide +kernel
theorem dX12_comeTo_55 : decode cX12_comeTo 55 = .ok (.istore 5, 2) := by decide +kernel
theorem dX12_comeTo_57 : decode cX12_comeTo 57 = .ok (.iload 5, 2) := by decide +kernel
theorem dX12_comeTo_59 : decode cX12_comeTo 59 = .ok (.istore 6, 2) := by decide +kernel
theorem dX12_comeTo_61 : decode cX12_comeTo 61 = .ok (.iload 6, 2) := by decide +kernel
theorem dX12_comeTo_63 : decode cX12_comeTo 63 = .ok (.ifCond .lt 27, 3) := by decide +kernel
theorem dX12_comeTo_66 : decode cX12_comeTo 66 = .ok (.aload_n 0, 1) := by decide +kernel
theorem dX12_comeTo_67 : decode cX12_comeTo 67 = .ok (.getfield 192, 3) := by decide +kernel
theorem dX12_comeTo_70 : decode cX12_comeTo 70 = .ok (.iload 6, 2) := by decide +kernel
theorem dX12_comeTo_72 : decode cX12_comeTo 72 = .ok (.iload 4, 2) := by decide +kernel
theorem dX12_comeTo_74 : decode cX12_comeTo 74 = .ok (.iastore, 1) := by decide +kernel
theorem dX12_comeTo_75 : decode cX12_comeTo 75 = .ok (.aload_n 0, 1) := by decide +kernel
theorem dX12_comeTo_76 : decode cX12_comeTo 76 = .ok (.getfield 29, 3) := by decide +kernel
theorem dX12_comeTo_79 : decode cX12_comeTo 79 = .ok (.iload 4, 2) := by decide +kernel
theorem dX12_comeTo_81 : decode cX12_comeTo 81 = .ok (.iaload, 1) := by decide +kernel
theorem dX12_comeTo_82 : decode cX12_comeTo 82 = .ok (.istore 4, 2) := by decide +kernel
theorem dX12_comeTo_84 : decode cX12_comeTo 84 = .ok (.iinc 6 (-1), 3) := by decide +kernel
theorem dX12_comeTo_87 : decode cX12_comeTo 87 = .ok (.goto (-26), 3) := by decide +kernel
theorem dX12_comeTo_90 : decode cX12_comeTo 90 = .ok (.iconst 0, 1) := by decide +kernel
theorem dX12_comeTo_91 : decode cX12_comeTo 91 = .ok (.istore 6, 2) := by decide +kernel
theorem dX12_comeTo_93 : decode cX12_comeTo 93 = .ok (.iload 6, 2) := by decide +kernel
theorem dX12_comeTo_95 : decode cX12_comeTo 95 = .ok (.sipush 5265, 3) := by decide +kernel
theorem dX12_comeTo_98 : decode cX12_comeTo 98 = .ok (.if_icmp .ge 17, 3) := by decide +kernel
theorem dX12_comeTo_101 : decode cX12_comeTo 101 = .ok (.aload_n 0, 1) := by decide +kernel
theorem dX12_comeTo_102 : decode cX12_comeTo 102 = .ok (.getfield 195, 3) := by decide +kernel
theorem dX12_comeTo_105 : decode cX12_comeTo 105 = .ok (.iload 6, 2) := by decide +kernel
theorem dX12_comeTo_107 : decode cX12_comeTo 107 = .ok (.iconst 0, 1) := by decide +kernel
theorem dX12_comeTo_108 : decode cX12_comeTo 108 = .ok (.bastore, 1) := by decide +kernel
theorem dX12_comeTo_109 : decode cX12_comeTo 109 = .ok (.iinc 6 1, 3) := by decide +kernel
theorem dX12_comeTo_112 : decode cX12_comeTo 112 = .ok (.goto (-19), 3) := by decide +kernel
theorem dX12_comeTo_115 : decode cX12_comeTo 115 = .ok (.aload_n 0, 1) := by decide +kernel
theorem dX12_comeTo_116 : decode cX12_comeTo 116 = .ok (.iconst 0, 1) := by decide +kernel
theorem dX12_comeTo_117 : decode cX12_comeTo 117 = .ok (.putfield 489, 3) := by decide +kernel
theorem dX12_comeTo_120 : decode cX12_comeTo 120 = .ok (.aload_n 0, 1) := by decide +kernel
theorem dX12_comeTo_121 : decode cX12_comeTo 121 = .ok (.invokevirtual 479, 3) := by decide +kernel
theorem dX12_comeTo_124 : decode cX12_comeTo 124 = .ok (.aload_n 0, 1) := by decide +kernel
theorem dX12_comeTo_125 : decode cX12_comeTo 125 = .ok (.iconst 0, 1) := by decide +kernel
theorem dX12_comeTo_126 : decode cX12_comeTo 126 = .ok (.iconst 0, 1) := by decide +kernel
theorem dX12_comeTo_127 : decode cX12_comeTo 127 = .ok (.iconst 0, 1) := by decide +kernel
theorem dX12_comeTo_128 : decode cX12_comeTo 128 = .ok (.invokevirtual 492, 3) := by decide +kernel
theorem dX12_comeTo_131 : decode cX12_comeTo 131 = .ok (.iconst 0, 1) := by decide +kernel
theorem dX12_comeTo_132 : decode cX12_comeTo 132 = .ok (.istore 6, 2) := by decide +kernel
theorem dX12_comeTo_134 : decode cX12_comeTo 134 = .ok (.iload 6, 2) := by decide +kernel
theorem dX12_comeTo_136 : decode cX12_comeTo 136 = .ok (.aload_n 0, 1) := by decide +kernel
theorem dX12_comeTo_137 : decode cX12_comeTo 137 = .ok (.getfield 489, 3) := by decide +kernel
theorem dX12_comeTo_140 : decode cX12_comeTo 140 = .ok (.if_icmp .ge 253, 3) := by decide +kernel
theorem dX12_comeTo_143 : decode cX12_comeTo 143 = .ok (.aload_n 0, 1) := by decide +kernel
theorem dX12_comeTo_144 : decode cX12_comeTo 144 = .ok (.getfield 198, 3) := by decide +kernel
theorem dX12_comeTo_147 : decode cX12_comeTo 147 = .ok (.iload 6, 2) := by decide +kernel
theorem dX12_comeTo_149 : decode cX12_comeTo 149 = .ok (.iaload, 1) := by decide +kernel
theorem dX12_comeTo_150 : decode cX12_comeTo 150 = .ok (.bipush 81, 2) := by decide +kernel
theorem dX12_comeTo_152 : decode cX12_comeTo 152 = .ok (.irem, 1) := by decide +kernel
theorem dX12_comeTo_153 : decode cX12_comeTo 153 = .ok (.istore 7, 2) := by decide +kernel
theorem dX12_comeTo_155 : decode cX12_comeTo 155 = .ok (.aload_n 0, 1) := by decide +kernel
theorem dX12_comeTo_156 : decode cX12_comeTo 156 = .ok (.getfield 198, 3) := by decide +kernel
theorem dX12_comeTo_159 : decode cX12_comeTo 159 = .ok (.iload 6, 2) := by decide +kernel
theorem dX12_comeTo_161 : decode cX12_comeTo 161 = .ok (.iaload, 1) := by decide +kernel
theorem dX12_comeTo_162 : decode cX12_comeTo 162 = .ok (.bipush 81, 2) := by decide +kernel
theorem dX12_comeTo_164 : decode cX12_comeTo 164 = .ok (.idiv, 1) := by decide +kernel
theorem dX12_comeTo_165 : decode cX12_comeTo 165 = .ok (.iconst 5, 1) := by decide +kernel
theorem dX12_comeTo_166 : decode cX12_comeTo 166 = .ok (.irem, 1) := by decide +kernel
theorem dX12_comeTo_167 : decode cX12_comeTo 167 = .ok (.istore 8, 2) := by decide +kernel
theorem dX12_comeTo_169 : decode cX12_comeTo 169 = .ok (.aload_n 0, 1) := by decide +kernel
theorem dX12_comeTo_170 : decode cX12_comeTo 170 = .ok (.getfield 198, 3) := by decide +kernel
theorem dX12_comeTo_173 : decode cX12_comeTo 173 = .ok (.iload 6, 2) := by decide +kernel
theorem dX12_comeTo_175 : decode cX12_comeTo 175 = .ok (.iaload, 1) := by decide +kernel
theorem dX12_comeTo_176 : decode cX12_comeTo 176 = .ok (.sipush 405, 3) := by decide +kernel
theorem dX12_comeTo_179 : decode cX12_comeTo 179 = .ok (.idiv, 1) := by decide +kernel
theorem dX12_comeTo_180 : decode cX12_comeTo 180 = .ok (.istore 9, 2) := by decide +kernel
theorem dX12_comeTo_182 : decode cX12_comeTo 182 = .ok (.aload_n 0, 1) := by decide +kernel
theorem dX12_comeTo_183 : decode cX12_comeTo 183 = .ok (.iload 8, 2) := by decide +kernel
theorem dX12_comeTo_185 : decode cX12_comeTo 185 = .ok (.iload 7, 2) := by decide +kernel
theorem dX12_comeTo_187 : decode cX12_comeTo 187 = .ok (.invokevirtual 453, 3) := by decide +kernel
theorem dX12_comeTo_190 : decode cX12_comeTo 190 = .ok (.aload_n 0, 1) := by decide +kernel
theorem dX12_comeTo_191 : decode cX12_comeTo 191 = .ok (.getfield 192, 3) := by decide +kernel
theorem dX12_comeTo_194 : decode cX12_comeTo 194 = .ok (.iload 9, 2) := by decide +kernel
theorem dX12_comeTo_196 : decode cX12_comeTo 196 = .ok (.iaload, 1) := by decide +kernel
theorem dX12_comeTo_197 : decode cX12_comeTo 197 = .ok (.istore 4, 2) := by decide +kernel
theorem dX12_comeTo_199 : decode cX12_comeTo 199 = .ok (.aload_n 0, 1) := by decide +kernel
theorem dX12_comeTo_200 : decode cX12_comeTo 200 = .ok (.iload 4, 2) := by decide +kernel
theorem dX12_comeTo_202 : decode cX12_comeTo 202 = .ok (.invokevirtual 374, 3) := by decide +kernel
theorem dX12_comeTo_205 : decode cX12_comeTo 205 = .ok (.ifCond .eq 6, 3) := by decide +kernel
theorem dX12_comeTo_208 : decode cX12_comeTo 208 = .ok (.goto 179, 3) := by decide +kernel
theorem dX12_comeTo_211 : decode cX12_comeTo 211 = .ok (.iload 9, 2) := by decide +kernel
theorem dX12_comeTo_213 : decode cX12_comeTo 213 = .ok (.iload 5, 2) := by decide +kernel
theorem dX12_comeTo_215 : decode cX12_comeTo 215 = .ok (.if_icmp .ne 5, 3) := by decide +kernel
theorem dX12_comeTo_218 : decode cX12_comeTo 218 = .ok (.iconst 1, 1) := by decide +kernel
theorem dX12_comeTo_219 : decode cX12_comeTo 219 = .ok (.ireturn, 1) := by decide +kernel
theorem dX12_comeTo_220 : decode cX12_comeTo 220 = .ok (.aload_n 0, 1) := by decide +kernel
theorem dX12_comeTo_221 : decode cX12_comeTo 221 = .ok (.getfield 20, 3) := by decide +kernel
theorem dX12_comeTo_224 : decode cX12_comeTo 224 = .ok (.iload 4, 2) := by decide +kernel
theorem dX12_comeTo_226 : decode cX12_comeTo 226 = .ok (.iaload, 1) := by decide +kernel
theorem dX12_comeTo_227 : decode cX12_comeTo 227 = .ok (.bipush 6, 2) := by decide +kernel
theorem dX12_comeTo_229 : decode cX12_comeTo 229 = .ok (.if_icmp .eq 15, 3) := by decide +kernel
theorem dX12_comeTo_232 : decode cX12_comeTo 232 = .ok (.aload_n 0, 1) := by decide +kernel
theorem dX12_comeTo_233 : decode cX12_comeTo 233 = .ok (.getfield 20, 3) := by decide +kernel
theorem dX12_comeTo_236 : decode cX12_comeTo 236 = .ok (.iload 4, 2) := by decide +kernel
theorem dX12_comeTo_238 : decode cX12_comeTo 238 = .ok (.iaload, 1) := by decide +kernel
theorem dX12_comeTo_239 : decode cX12_comeTo 239 = .ok (.bipush 7, 2) := by decide +kernel
theorem dX12_comeTo_241 : decode cX12_comeTo 241 = .ok (.if_icmp .ne 7, 3) := by decide +kernel
theorem dX12_comeTo_244 : decode cX12_comeTo 244 = .ok (.iconst 1, 1) := by decide +kernel
theorem dX12_comeTo_245 : decode cX12_comeTo 245 = .ok (.goto 4, 3) := by decide +kernel
theorem dX12_comeTo_248 : decode cX12_comeTo 248 = .ok (.iconst 0, 1) := by decide +kernel
theorem dX12_comeTo_249 : decode cX12_comeTo 249 = .ok (.istore 10, 2) := by decide +kernel
theorem dX12_comeTo_251 : decode cX12_comeTo 251 = .ok (.iload 10, 2) := by decide +kernel
theorem dX12_comeTo_253 : decode cX12_comeTo 253 = .ok (.ifCond .eq 12, 3) := by decide +kernel
theorem dX12_comeTo_256 : decode cX12_comeTo 256 = .ok (.aload_n 0, 1) := by decide +kernel
theorem dX12_comeTo_257 : decode cX12_comeTo 257 = .ok (.iload 4, 2) := by decide +kernel
theorem dX12_comeTo_259 : decode cX12_comeTo 259 = .ok (.invokevirtual 348, 3) := by decide +kernel
theorem dX12_comeTo_262 : decode cX12_comeTo 262 = .ok (.goto 37, 3) := by decide +kernel
theorem dX12_comeTo_265 : decode cX12_comeTo 265 = .ok (.aload_n 0, 1) := by decide +kernel
theorem dX12_comeTo_266 : decode cX12_comeTo 266 = .ok (.getfield 20, 3) := by decide +kernel
theorem dX12_comeTo_269 : decode cX12_comeTo 269 = .ok (.iload 4, 2) := by decide +kernel
theorem dX12_comeTo_271 : decode cX12_comeTo 271 = .ok (.iaload, 1) := by decide +kernel
theorem dX12_comeTo_272 : decode cX12_comeTo 272 = .ok (.iconst 5, 1) := by decide +kernel
theorem dX12_comeTo_273 : decode cX12_comeTo 273 = .ok (.if_icmp .ne 21, 3) := by decide +kernel
theorem dX12_comeTo_276 : decode cX12_comeTo 276 = .ok (.aload_n 0, 1) := by decide +kernel
theorem dX12_comeTo_277 : decode cX12_comeTo 277 = .ok (.iload 4, 2) := by decide +kernel
theorem dX12_comeTo_279 : decode cX12_comeTo 279 = .ok (.invokevirtual 377, 3) := by decide +kernel
theorem dX12_comeTo_282 : decode cX12_comeTo 282 = .ok (.aload_n 0, 1) := by decide +kernel
theorem dX12_comeTo_283 : decode cX12_comeTo 283 = .ok (.getfield 192, 3) := by decide +kernel
theorem dX12_comeTo_286 : decode cX12_comeTo 286 = .ok (.iload 9, 2) := by decide +kernel
theorem dX12_comeTo_288 : decode cX12_comeTo 288 = .ok (.iconst 1, 1) := by decide +kernel
theorem dX12_comeTo_289 : decode cX12_comeTo 289 = .ok (.iadd, 1) := by decide +kernel
theorem dX12_comeTo_290 : decode cX12_comeTo 290 = .ok (.iaload, 1) := by decide +kernel
theorem dX12_comeTo_291 : decode cX12_comeTo 291 = .ok (.if_icmp .ne 7, 3) := by decide +kernel
theorem dX12_comeTo_294 : decode cX12_comeTo 294 = .ok (.iconst 1, 1) := by decide +kernel
theorem dX12_comeTo_295 : decode cX12_comeTo 295 = .ok (.goto 4, 3) := by decide +kernel
theorem dX12_comeTo_298 : decode cX12_comeTo 298 = .ok (.iconst 0, 1) := by decide +kernel
theorem dX12_comeTo_299 : decode cX12_comeTo 299 = .ok (.istore 11, 2) := by decide +kernel
theorem dX12_comeTo_301 : decode cX12_comeTo 301 = .ok (.iload 11, 2) := by decide +kernel
theorem dX12_comeTo_303 : decode cX12_comeTo 303 = .ok (.ifCond .eq 15, 3) := by decide +kernel
theorem dX12_comeTo_306 : decode cX12_comeTo 306 = .ok (.aload_n 0, 1) := by decide +kernel
theorem dX12_comeTo_307 : decode cX12_comeTo 307 = .ok (.iload 9, 2) := by decide +kernel
theorem dX12_comeTo_309 : decode cX12_comeTo 309 = .ok (.iconst 1, 1) := by decide +kernel
theorem dX12_comeTo_310 : decode cX12_comeTo 310 = .ok (.iadd, 1) := by decide +kernel
theorem dX12_comeTo_311 : decode cX12_comeTo 311 = .ok (.iload 8, 2) := by decide +kernel
theorem dX12_comeTo_313 : decode cX12_comeTo 313 = .ok (.iload 7, 2) := by decide +kernel
theorem dX12_comeTo_315 : decode cX12_comeTo 315 = .ok (.invokevirtual 492, 3) := by decide +kernel
theorem dX12_comeTo_318 : decode cX12_comeTo 318 = .ok (.iload 10, 2) := by decide +kernel
theorem dX12_comeTo_320 : decode cX12_comeTo 320 = .ok (.ifCond .eq 67, 3) := by decide +kernel
theorem dX12_comeTo_323 : decode cX12_comeTo 323 = .ok (.iload 8, 2) := by decide +kernel
theorem dX12_comeTo_325 : decode cX12_comeTo 325 = .ok (.iload_n 2, 1) := by decide +kernel
theorem dX12_comeTo_326 : decode cX12_comeTo 326 = .ok (.if_icmp .eq 61, 3) := by decide +kernel
theorem dX12_comeTo_329 : decode cX12_comeTo 329 = .ok (.iload 11, 2) := by decide +kernel
theorem dX12_comeTo_331 : decode cX12_comeTo 331 = .ok (.ifCond .eq 18, 3) := by decide +kernel
theorem dX12_comeTo_334 : decode cX12_comeTo 334 = .ok (.aload_n 0, 1) := by decide +kernel
theorem dX12_comeTo_335 : decode cX12_comeTo 335 = .ok (.getfield 20, 3) := by decide +kernel
theorem dX12_comeTo_338 : decode cX12_comeTo 338 = .ok (.iload 4, 2) := by decide +kernel
theorem dX12_comeTo_340 : decode cX12_comeTo 340 = .ok (.iaload, 1) := by decide +kernel
theorem dX12_comeTo_341 : decode cX12_comeTo 341 = .ok (.bipush 6, 2) := by decide +kernel
theorem dX12_comeTo_343 : decode cX12_comeTo 343 = .ok (.if_icmp .ne 6, 3) := by decide +kernel
theorem dX12_comeTo_346 : decode cX12_comeTo 346 = .ok (.goto 41, 3) := by decide +kernel
theorem dX12_comeTo_349 : decode cX12_comeTo 349 = .ok (.iconst 0, 1) := by decide +kernel
theorem dX12_comeTo_350 : decode cX12_comeTo 350 = .ok (.istore 12, 2) := by decide +kernel
theorem dX12_comeTo_352 : decode cX12_comeTo 352 = .ok (.iload 12, 2) := by decide +kernel
theorem dX12_comeTo_354 : decode cX12_comeTo 354 = .ok (.aload_n 0, 1) := by decide +kernel
theorem dX12_comeTo_355 : decode cX12_comeTo 355 = .ok (.getfield 151, 3) := by decide +kernel
theorem dX12_comeTo_358 : decode cX12_comeTo 358 = .ok (.if_icmp .ge 29, 3) := by decide +kernel
theorem dX12_comeTo_361 : decode cX12_comeTo 361 = .ok (.aload_n 0, 1) := by decide +kernel
theorem dX12_comeTo_362 : decode cX12_comeTo 362 = .ok (.iload 9, 2) := by decide +kernel
theorem dX12_comeTo_364 : decode cX12_comeTo 364 = .ok (.iload 8, 2) := by decide +kernel
theorem dX12_comeTo_366 : decode cX12_comeTo 366 = .ok (.iconst 1, 1) := by decide +kernel
theorem dX12_comeTo_367 : decode cX12_comeTo 367 = .ok (.iadd, 1) := by decide +kernel
theorem dX12_comeTo_368 : decode cX12_comeTo 368 = .ok (.iload 7, 2) := by decide +kernel
theorem dX12_comeTo_370 : decode cX12_comeTo 370 = .ok (.aload_n 0, 1) := by decide +kernel
theorem dX12_comeTo_371 : decode cX12_comeTo 371 = .ok (.getfield 151, 3) := by decide +kernel
theorem dX12_comeTo_374 : decode cX12_comeTo 374 = .ok (.imul, 1) := by decide +kernel
theorem dX12_comeTo_375 : decode cX12_comeTo 375 = .ok (.iload 12, 2) := by decide +kernel
theorem dX12_comeTo_377 : decode cX12_comeTo 377 = .ok (.iadd, 1) := by decide +kernel
theorem dX12_comeTo_378 : decode cX12_comeTo 378 = .ok (.invokevirtual 492, 3) := by decide +kernel
theorem dX12_comeTo_381 : decode cX12_comeTo 381 = .ok (.iinc 12 1, 3) := by decide +kernel
theorem dX12_comeTo_384 : decode cX12_comeTo 384 = .ok (.goto (-32), 3) := by decide +kernel
theorem dX12_comeTo_387 : decode cX12_comeTo 387 = .ok (.iinc 6 1, 3) := by decide +kernel
theorem dX12_comeTo_390 : decode cX12_comeTo 390 = .ok (.goto (-256), 3) := by decide +kernel
theorem dX12_comeTo_393 : decode cX12_comeTo 393 = .ok (.iconst 0, 1) := by decide +kernel
theorem dX12_comeTo_394 : decode cX12_comeTo 394 = .ok (.ireturn, 1) := by decide +kernel
theorem dX12_brings_0 : decode cX12_brings 0 = .ok (.lconst 0, 1) := by decide +kernel
theorem dX12_brings_1 : decode cX12_brings 1 = .ok (.lstore 4, 2) := by decide +kernel
theorem dX12_brings_3 : decode cX12_brings 3 = .ok (.aload_n 0, 1) := by decide +kernel
theorem dX12_brings_4 : decode cX12_brings 4 = .ok (.iconst 0, 1) := by decide +kernel
theorem dX12_brings_5 : decode cX12_brings 5 = .ok (.putfield 361, 3) := by decide +kernel
theorem dX12_brings_8 : decode cX12_brings 8 = .ok (.aload_n 0, 1) := by decide +kernel
theorem dX12_brings_9 : decode cX12_brings 9 = .ok (.iload_n 1, 1) := by decide +kernel
theorem dX12_brings_10 : decode cX12_brings 10 = .ok (.lload_n 2, 1) := by decide +kernel
theorem dX12_brings_11 : decode cX12_brings 11 = .ok (.invokevirtual 370, 3) := by decide +kernel
theorem dX12_brings_14 : decode cX12_brings 14 = .ok (.aload_n 0, 1) := by decide +kernel
theorem dX12_brings_15 : decode cX12_brings 15 = .ok (.getfield 361, 3) := by decide +kernel
theorem dX12_brings_18 : decode cX12_brings 18 = .ok (.ifCond .le 189, 3) := by decide +kernel
theorem dX12_brings_21 : decode cX12_brings 21 = .ok (.aload_n 0, 1) := by decide +kernel
theorem dX12_brings_22 : decode cX12_brings 22 = .ok (.dup, 1) := by decide +kernel
theorem dX12_brings_23 : decode cX12_brings 23 = .ok (.getfield 361, 3) := by decide +kernel
theorem dX12_brings_26 : decode cX12_brings 26 = .ok (.iconst 1, 1) := by decide +kernel
theorem dX12_brings_27 : decode cX12_brings 27 = .ok (.isub, 1) := by decide +kernel
theorem dX12_brings_28 : decode cX12_brings 28 = .ok (.putfield 361, 3) := by decide +kernel
theorem dX12_brings_31 : decode cX12_brings 31 = .ok (.aload_n 0, 1) := by decide +kernel
theorem dX12_brings_32 : decode cX12_brings 32 = .ok (.getfield 130, 3) := by decide +kernel
theorem dX12_brings_35 : decode cX12_brings 35 = .ok (.aload_n 0, 1) := by decide +kernel
theorem dX12_brings_36 : decode cX12_brings 36 = .ok (.getfield 361, 3) := by decide +kernel
theorem dX12_brings_39 : decode cX12_brings 39 = .ok (.iaload, 1) := by decide +kernel
theorem dX12_brings_40 : decode cX12_brings 40 = .ok (.istore 6, 2) := by decide +kernel
theorem dX12_brings_42 : decode cX12_brings 42 = .ok (.aload_n 0, 1) := by decide +kernel
theorem dX12_brings_43 : decode cX12_brings 43 = .ok (.getfield 133, 3) := by decide +kernel
theorem dX12_brings_46 : decode cX12_brings 46 = .ok (.aload_n 0, 1) := by decide +kernel
theorem dX12_brings_47 : decode cX12_brings 47 = .ok (.getfield 361, 3) := by decide +kernel
theorem dX12_brings_50 : decode cX12_brings 50 = .ok (.laload, 1) := by decide +kernel
theorem dX12_brings_51 : decode cX12_brings 51 = .ok (.lstore 7, 2) := by decide +kernel
theorem dX12_brings_53 : decode cX12_brings 53 = .ok (.aload_n 0, 1) := by decide +kernel
theorem dX12_brings_54 : decode cX12_brings 54 = .ok (.iload 6, 2) := by decide +kernel
theorem dX12_brings_56 : decode cX12_brings 56 = .ok (.invokevirtual 374, 3) := by decide +kernel
theorem dX12_brings_59 : decode cX12_brings 59 = .ok (.ifCond .ne (-45), 3) := by decide +kernel
theorem dX12_brings_62 : decode cX12_brings 62 = .ok (.aload_n 0, 1) := by decide +kernel
theorem dX12_brings_63 : decode cX12_brings 63 = .ok (.getfield 20, 3) := by decide +kernel
theorem dX12_brings_66 : decode cX12_brings 66 = .ok (.iload 6, 2) := by decide +kernel
theorem dX12_brings_68 : decode cX12_brings 68 = .ok (.iaload, 1) := by decide +kernel
theorem dX12_brings_69 : decode cX12_brings 69 = .ok (.ifCond .ne 6, 3) := by decide +kernel
theorem dX12_brings_72 : decode cX12_brings 72 = .ok (.goto (-58), 3) := by decide +kernel
theorem dX12_brings_75 : decode cX12_brings 75 = .ok (.aload_n 0, 1) := by decide +kernel
theorem dX12_brings_76 : decode cX12_brings 76 = .ok (.iload 6, 2) := by decide +kernel
theorem dX12_brings_78 : decode cX12_brings 78 = .ok (.invokevirtual 377, 3) := by decide +kernel
theorem dX12_brings_81 : decode cX12_brings 81 = .ok (.istore 9, 2) := by decide +kernel
theorem dX12_brings_83 : decode cX12_brings 83 = .ok (.iload 9, 2) := by decide +kernel
theorem dX12_brings_85 : decode cX12_brings 85 = .ok (.ifCond .lt 20, 3) := by decide +kernel
theorem dX12_brings_88 : decode cX12_brings 88 = .ok (.aload_n 0, 1) := by decide +kernel
theorem dX12_brings_89 : decode cX12_brings 89 = .ok (.iload 9, 2) := by decide +kernel
theorem dX12_brings_91 : decode cX12_brings 91 = .ok (.aload_n 0, 1) := by decide +kernel
theorem dX12_brings_92 : decode cX12_brings 92 = .ok (.iload 6, 2) := by decide +kernel
theorem dX12_brings_94 : decode cX12_brings 94 = .ok (.lload 7, 2) := by decide +kernel
theorem dX12_brings_96 : decode cX12_brings 96 = .ok (.invokevirtual 380, 3) := by decide +kernel
theorem dX12_brings_99 : decode cX12_brings 99 = .ok (.invokevirtual 370, 3) := by decide +kernel
theorem dX12_brings_102 : decode cX12_brings 102 = .ok (.goto 102, 3) := by decide +kernel
theorem dX12_brings_105 : decode cX12_brings 105 = .ok (.aload_n 0, 1) := by decide +kernel
theorem dX12_brings_106 : decode cX12_brings 106 = .ok (.getfield 20, 3) := by decide +kernel
theorem dX12_brings_109 : decode cX12_brings 109 = .ok (.iload 6, 2) := by decide +kernel
theorem dX12_brings_111 : decode cX12_brings 111 = .ok (.iaload, 1) := by decide +kernel
theorem dX12_brings_112 : decode cX12_brings 112 = .ok (.iconst 1, 1) := by decide +kernel
theorem dX12_brings_113 : decode cX12_brings 113 = .ok (.if_icmp .ne 19, 3) := by decide +kernel
theorem dX12_brings_116 : decode cX12_brings 116 = .ok (.lload 4, 2) := by decide +kernel
theorem dX12_brings_118 : decode cX12_brings 118 = .ok (.aload_n 0, 1) := by decide +kernel
theorem dX12_brings_119 : decode cX12_brings 119 = .ok (.iload 6, 2) := by decide +kernel
theorem dX12_brings_121 : decode cX12_brings 121 = .ok (.lload 7, 2) := by decide +kernel
theorem dX12_brings_123 : decode cX12_brings 123 = .ok (.invokevirtual 384, 3) := by decide +kernel
theorem dX12_brings_126 : decode cX12_brings 126 = .ok (.ladd, 1) := by decide +kernel
theorem dX12_brings_127 : decode cX12_brings 127 = .ok (.lstore 4, 2) := by decide +kernel
theorem dX12_brings_129 : decode cX12_brings 129 = .ok (.goto 75, 3) := by decide +kernel
theorem dX12_brings_132 : decode cX12_brings 132 = .ok (.aload_n 0, 1) := by decide +kernel
theorem dX12_brings_133 : decode cX12_brings 133 = .ok (.getfield 20, 3) := by decide +kernel
theorem dX12_brings_136 : decode cX12_brings 136 = .ok (.iload 6, 2) := by decide +kernel
theorem dX12_brings_138 : decode cX12_brings 138 = .ok (.iaload, 1) := by decide +kernel
theorem dX12_brings_139 : decode cX12_brings 139 = .ok (.iconst 3, 1) := by decide +kernel
theorem dX12_brings_140 : decode cX12_brings 140 = .ok (.if_icmp .ne 32, 3) := by decide +kernel
theorem dX12_brings_143 : decode cX12_brings 143 = .ok (.aload_n 0, 1) := by decide +kernel
theorem dX12_brings_144 : decode cX12_brings 144 = .ok (.aload_n 0, 1) := by decide +kernel
theorem dX12_brings_145 : decode cX12_brings 145 = .ok (.getfield 35, 3) := by decide +kernel
theorem dX12_brings_148 : decode cX12_brings 148 = .ok (.iload 6, 2) := by decide +kernel
theorem dX12_brings_150 : decode cX12_brings 150 = .ok (.iaload, 1) := by decide +kernel
theorem dX12_brings_151 : decode cX12_brings 151 = .ok (.lload 7, 2) := by decide +kernel
theorem dX12_brings_153 : decode cX12_brings 153 = .ok (.invokevirtual 370, 3) := by decide +kernel
theorem dX12_brings_156 : decode cX12_brings 156 = .ok (.aload_n 0, 1) := by decide +kernel
theorem dX12_brings_157 : decode cX12_brings 157 = .ok (.aload_n 0, 1) := by decide +kernel
theorem dX12_brings_158 : decode cX12_brings 158 = .ok (.getfield 32, 3) := by decide +kernel
theorem dX12_brings_161 : decode cX12_brings 161 = .ok (.iload 6, 2) := by decide +kernel
theorem dX12_brings_163 : decode cX12_brings 163 = .ok (.iaload, 1) := by decide +kernel
theorem dX12_brings_164 : decode cX12_brings 164 = .ok (.lload 7, 2) := by decide +kernel
theorem dX12_brings_166 : decode cX12_brings 166 = .ok (.invokevirtual 370, 3) := by decide +kernel
theorem dX12_brings_169 : decode cX12_brings 169 = .ok (.goto 35, 3) := by decide +kernel
theorem dX12_brings_172 : decode cX12_brings 172 = .ok (.aload_n 0, 1) := by decide +kernel
theorem dX12_brings_173 : decode cX12_brings 173 = .ok (.getfield 201, 3) := by decide +kernel
theorem dX12_brings_176 : decode cX12_brings 176 = .ok (.aload_n 0, 1) := by decide +kernel
theorem dX12_brings_177 : decode cX12_brings 177 = .ok (.getfield 495, 3) := by decide +kernel
theorem dX12_brings_180 : decode cX12_brings 180 = .ok (.iload 6, 2) := by decide +kernel
theorem dX12_brings_182 : decode cX12_brings 182 = .ok (.iastore, 1) := by decide +kernel
theorem dX12_brings_183 : decode cX12_brings 183 = .ok (.aload_n 0, 1) := by decide +kernel
theorem dX12_brings_184 : decode cX12_brings 184 = .ok (.getfield 204, 3) := by decide +kernel
theorem dX12_brings_187 : decode cX12_brings 187 = .ok (.aload_n 0, 1) := by decide +kernel
theorem dX12_brings_188 : decode cX12_brings 188 = .ok (.getfield 495, 3) := by decide +kernel
theorem dX12_brings_191 : decode cX12_brings 191 = .ok (.lload 7, 2) := by decide +kernel
theorem dX12_brings_193 : decode cX12_brings 193 = .ok (.lastore, 1) := by decide +kernel
theorem dX12_brings_194 : decode cX12_brings 194 = .ok (.aload_n 0, 1) := by decide +kernel
theorem dX12_brings_195 : decode cX12_brings 195 = .ok (.dup, 1) := by decide +kernel
theorem dX12_brings_196 : decode cX12_brings 196 = .ok (.getfield 495, 3) := by decide +kernel
theorem dX12_brings_199 : decode cX12_brings 199 = .ok (.iconst 1, 1) := by decide +kernel
theorem dX12_brings_200 : decode cX12_brings 200 = .ok (.iadd, 1) := by decide +kernel
theorem dX12_brings_201 : decode cX12_brings 201 = .ok (.putfield 495, 3) := by decide +kernel
theorem dX12_brings_204 : decode cX12_brings 204 = .ok (.goto (-190), 3) := by decide +kernel
theorem dX12_brings_207 : decode cX12_brings 207 = .ok (.lload 4, 2) := by decide +kernel
theorem dX12_brings_209 : decode cX12_brings 209 = .ok (.lreturn, 1) := by decide +kernel
theorem dX12_runs_0 : decode cX12_runs 0 = .ok (.aload_n 0, 1) := by decide +kernel
theorem dX12_runs_1 : decode cX12_runs 1 = .ok (.iconst 0, 1) := by decide +kernel
theorem dX12_runs_2 : decode cX12_runs 2 = .ok (.putfield 495, 3) := by decide +kernel
theorem dX12_runs_5 : decode cX12_runs 5 = .ok (.aload_n 0, 1) := by decide +kernel
theorem dX12_runs_6 : decode cX12_runs 6 = .ok (.iconst 0, 1) := by decide +kernel
theorem dX12_runs_7 : decode cX12_runs 7 = .ok (.iconst 0, 1) := by decide +kernel
theorem dX12_runs_8 : decode cX12_runs 8 = .ok (.invokevirtual 453, 3) := by decide +kernel
theorem dX12_runs_11 : decode cX12_runs 11 = .ok (.aload_n 0, 1) := by decide +kernel
theorem dX12_runs_12 : decode cX12_runs 12 = .ok (.getfield 207, 3) := by decide +kernel
theorem dX12_runs_15 : decode cX12_runs 15 = .ok (.iconst 0, 1) := by decide +kernel
theorem dX12_runs_16 : decode cX12_runs 16 = .ok (.dup2, 1) := by decide +kernel
theorem dX12_runs_17 : decode cX12_runs 17 = .ok (.laload, 1) := by decide +kernel
theorem dX12_runs_18 : decode cX12_runs 18 = .ok (.lload 4, 2) := by decide +kernel
theorem dX12_runs_20 : decode cX12_runs 20 = .ok (.aload_n 0, 1) := by decide +kernel
theorem dX12_runs_21 : decode cX12_runs 21 = .ok (.bipush 40, 2) := by decide +kernel
theorem dX12_runs_23 : decode cX12_runs 23 = .ok (.iload_n 1, 1) := by decide +kernel
theorem dX12_runs_24 : decode cX12_runs 24 = .ok (.imul, 1) := by decide +kernel
theorem dX12_runs_25 : decode cX12_runs 25 = .ok (.lconst 1, 1) := by decide +kernel
theorem dX12_runs_26 : decode cX12_runs 26 = .ok (.invokevirtual 498, 3) := by decide +kernel
theorem dX12_runs_29 : decode cX12_runs 29 = .ok (.lmul, 1) := by decide +kernel
theorem dX12_runs_30 : decode cX12_runs 30 = .ok (.ladd, 1) := by decide +kernel
theorem dX12_runs_31 : decode cX12_runs 31 = .ok (.lastore, 1) := by decide +kernel
theorem dX12_runs_32 : decode cX12_runs 32 = .ok (.iconst 1, 1) := by decide +kernel
theorem dX12_runs_33 : decode cX12_runs 33 = .ok (.istore 6, 2) := by decide +kernel
theorem dX12_runs_35 : decode cX12_runs 35 = .ok (.iload 6, 2) := by decide +kernel
theorem dX12_runs_37 : decode cX12_runs 37 = .ok (.iload_n 3, 1) := by decide +kernel
theorem dX12_runs_38 : decode cX12_runs 38 = .ok (.if_icmp .gt 190, 3) := by decide +kernel
theorem dX12_runs_41 : decode cX12_runs 41 = .ok (.iload_n 2, 1) := by decide +kernel
theorem dX12_runs_42 : decode cX12_runs 42 = .ok (.aload_n 0, 1) := by decide +kernel
theorem dX12_runs_43 : decode cX12_runs 43 = .ok (.getfield 151, 3) := by decide +kernel
theorem dX12_runs_46 : decode cX12_runs 46 = .ok (.iload_n 3, 1) := by decide +kernel
theorem dX12_runs_47 : decode cX12_runs 47 = .ok (.iload 6, 2) := by decide +kernel
theorem dX12_runs_49 : decode cX12_runs 49 = .ok (.isub, 1) := by decide +kernel
theorem dX12_runs_50 : decode cX12_runs 50 = .ok (.invokestatic 463, 3) := by decide +kernel
theorem dX12_runs_53 : decode cX12_runs 53 = .ok (.idiv, 1) := by decide +kernel
theorem dX12_runs_54 : decode cX12_runs 54 = .ok (.istore 7, 2) := by decide +kernel
theorem dX12_runs_56 : decode cX12_runs 56 = .ok (.aload_n 0, 1) := by decide +kernel
theorem dX12_runs_57 : decode cX12_runs 57 = .ok (.iload 6, 2) := by decide +kernel
theorem dX12_runs_59 : decode cX12_runs 59 = .ok (.iload 7, 2) := by decide +kernel
theorem dX12_runs_61 : decode cX12_runs 61 = .ok (.invokevirtual 453, 3) := by decide +kernel
theorem dX12_runs_64 : decode cX12_runs 64 = .ok (.iconst 0, 1) := by decide +kernel
theorem dX12_runs_65 : decode cX12_runs 65 = .ok (.istore 8, 2) := by decide +kernel
theorem dX12_runs_67 : decode cX12_runs 67 = .ok (.aload_n 0, 1) := by decide +kernel
theorem dX12_runs_68 : decode cX12_runs 68 = .ok (.getfield 495, 3) := by decide +kernel
theorem dX12_runs_71 : decode cX12_runs 71 = .ok (.istore 9, 2) := by decide +kernel
theorem dX12_runs_73 : decode cX12_runs 73 = .ok (.iload 9, 2) := by decide +kernel
theorem dX12_runs_75 : decode cX12_runs 75 = .ok (.ifCond .le 147, 3) := by decide +kernel
theorem dX12_runs_78 : decode cX12_runs 78 = .ok (.aload_n 0, 1) := by decide +kernel
theorem dX12_runs_79 : decode cX12_runs 79 = .ok (.getfield 201, 3) := by decide +kernel
theorem dX12_runs_82 : decode cX12_runs 82 = .ok (.iload 8, 2) := by decide +kernel
theorem dX12_runs_84 : decode cX12_runs 84 = .ok (.iaload, 1) := by decide +kernel
theorem dX12_runs_85 : decode cX12_runs 85 = .ok (.istore 10, 2) := by decide +kernel
theorem dX12_runs_87 : decode cX12_runs 87 = .ok (.aload_n 0, 1) := by decide +kernel
theorem dX12_runs_88 : decode cX12_runs 88 = .ok (.getfield 204, 3) := by decide +kernel
theorem dX12_runs_91 : decode cX12_runs 91 = .ok (.iload 8, 2) := by decide +kernel
theorem dX12_runs_93 : decode cX12_runs 93 = .ok (.laload, 1) := by decide +kernel
theorem dX12_runs_94 : decode cX12_runs 94 = .ok (.lstore 11, 2) := by decide +kernel
theorem dX12_runs_96 : decode cX12_runs 96 = .ok (.aload_n 0, 1) := by decide +kernel
theorem dX12_runs_97 : decode cX12_runs 97 = .ok (.iload 10, 2) := by decide +kernel
theorem dX12_runs_99 : decode cX12_runs 99 = .ok (.invokevirtual 374, 3) := by decide +kernel
theorem dX12_runs_102 : decode cX12_runs 102 = .ok (.istore 13, 2) := by decide +kernel
theorem dX12_runs_104 : decode cX12_runs 104 = .ok (.iload 13, 2) := by decide +kernel
theorem dX12_runs_106 : decode cX12_runs 106 = .ok (.ifCond .ne 18, 3) := by decide +kernel
theorem dX12_runs_109 : decode cX12_runs 109 = .ok (.aload_n 0, 1) := by decide +kernel
theorem dX12_runs_110 : decode cX12_runs 110 = .ok (.iload 10, 2) := by decide +kernel
theorem dX12_runs_112 : decode cX12_runs 112 = .ok (.invokevirtual 348, 3) := by decide +kernel
theorem dX12_runs_115 : decode cX12_runs 115 = .ok (.ifCond .ne 9, 3) := by decide +kernel
theorem dX12_runs_118 : decode cX12_runs 118 = .ok (.iinc 8 1, 3) := by decide +kernel
theorem dX12_runs_121 : decode cX12_runs 121 = .ok (.goto 95, 3) := by decide +kernel
theorem dX12_runs_124 : decode cX12_runs 124 = .ok (.aload_n 0, 1) := by decide +kernel
theorem dX12_runs_125 : decode cX12_runs 125 = .ok (.dup, 1) := by decide +kernel
theorem dX12_runs_126 : decode cX12_runs 126 = .ok (.getfield 495, 3) := by decide +kernel
theorem dX12_runs_129 : decode cX12_runs 129 = .ok (.iconst 1, 1) := by decide +kernel
theorem dX12_runs_130 : decode cX12_runs 130 = .ok (.isub, 1) := by decide +kernel
theorem dX12_runs_131 : decode cX12_runs 131 = .ok (.putfield 495, 3) := by decide +kernel
theorem dX12_runs_134 : decode cX12_runs 134 = .ok (.iload 8, 2) := by decide +kernel
theorem dX12_runs_136 : decode cX12_runs 136 = .ok (.istore 14, 2) := by decide +kernel
theorem dX12_runs_138 : decode cX12_runs 138 = .ok (.iload 14, 2) := by decide +kernel
theorem dX12_runs_140 : decode cX12_runs 140 = .ok (.aload_n 0, 1) := by decide +kernel
theorem dX12_runs_141 : decode cX12_runs 141 = .ok (.getfield 495, 3) := by decide +kernel
theorem dX12_runs_144 : decode cX12_runs 144 = .ok (.if_icmp .ge 41, 3) := by decide +kernel
theorem dX12_runs_147 : decode cX12_runs 147 = .ok (.aload_n 0, 1) := by decide +kernel
theorem dX12_runs_148 : decode cX12_runs 148 = .ok (.getfield 201, 3) := by decide +kernel
theorem dX12_runs_151 : decode cX12_runs 151 = .ok (.iload 14, 2) := by decide +kernel
theorem dX12_runs_153 : decode cX12_runs 153 = .ok (.aload_n 0, 1) := by decide +kernel
theorem dX12_runs_154 : decode cX12_runs 154 = .ok (.getfield 201, 3) := by decide +kernel
theorem dX12_runs_157 : decode cX12_runs 157 = .ok (.iload 14, 2) := by decide +kernel
theorem dX12_runs_159 : decode cX12_runs 159 = .ok (.iconst 1, 1) := by decide +kernel
theorem dX12_runs_160 : decode cX12_runs 160 = .ok (.iadd, 1) := by decide +kernel
theorem dX12_runs_161 : decode cX12_runs 161 = .ok (.iaload, 1) := by decide +kernel
theorem dX12_runs_162 : decode cX12_runs 162 = .ok (.iastore, 1) := by decide +kernel
theorem dX12_runs_163 : decode cX12_runs 163 = .ok (.aload_n 0, 1) := by decide +kernel
theorem dX12_runs_164 : decode cX12_runs 164 = .ok (.getfield 204, 3) := by decide +kernel
theorem dX12_runs_167 : decode cX12_runs 167 = .ok (.iload 14, 2) := by decide +kernel
theorem dX12_runs_169 : decode cX12_runs 169 = .ok (.aload_n 0, 1) := by decide +kernel
theorem dX12_runs_170 : decode cX12_runs 170 = .ok (.getfield 204, 3) := by decide +kernel
theorem dX12_runs_173 : decode cX12_runs 173 = .ok (.iload 14, 2) := by decide +kernel
theorem dX12_runs_175 : decode cX12_runs 175 = .ok (.iconst 1, 1) := by decide +kernel
theorem dX12_runs_176 : decode cX12_runs 176 = .ok (.iadd, 1) := by decide +kernel
theorem dX12_runs_177 : decode cX12_runs 177 = .ok (.laload, 1) := by decide +kernel
theorem dX12_runs_178 : decode cX12_runs 178 = .ok (.lastore, 1) := by decide +kernel
theorem dX12_runs_179 : decode cX12_runs 179 = .ok (.iinc 14 1, 3) := by decide +kernel
theorem dX12_runs_182 : decode cX12_runs 182 = .ok (.goto (-44), 3) := by decide +kernel
theorem dX12_runs_185 : decode cX12_runs 185 = .ok (.iload 13, 2) := by decide +kernel
theorem dX12_runs_187 : decode cX12_runs 187 = .ok (.ifCond .ne 29, 3) := by decide +kernel
theorem dX12_runs_190 : decode cX12_runs 190 = .ok (.aload_n 0, 1) := by decide +kernel
theorem dX12_runs_191 : decode cX12_runs 191 = .ok (.getfield 207, 3) := by decide +kernel
theorem dX12_runs_194 : decode cX12_runs 194 = .ok (.iload 6, 2) := by decide +kernel
theorem dX12_runs_196 : decode cX12_runs 196 = .ok (.dup2, 1) := by decide +kernel
theorem dX12_runs_197 : decode cX12_runs 197 = .ok (.laload, 1) := by decide +kernel
theorem dX12_runs_198 : decode cX12_runs 198 = .ok (.lload 4, 2) := by decide +kernel
theorem dX12_runs_200 : decode cX12_runs 200 = .ok (.aload_n 0, 1) := by decide +kernel
theorem dX12_runs_201 : decode cX12_runs 201 = .ok (.aload_n 0, 1) := by decide +kernel
theorem dX12_runs_202 : decode cX12_runs 202 = .ok (.getfield 32, 3) := by decide +kernel
theorem dX12_runs_205 : decode cX12_runs 205 = .ok (.iload 10, 2) := by decide +kernel
theorem dX12_runs_207 : decode cX12_runs 207 = .ok (.iaload, 1) := by decide +kernel
theorem dX12_runs_208 : decode cX12_runs 208 = .ok (.lload 11, 2) := by decide +kernel
theorem dX12_runs_210 : decode cX12_runs 210 = .ok (.invokevirtual 498, 3) := by decide +kernel
theorem dX12_runs_213 : decode cX12_runs 213 = .ok (.lmul, 1) := by decide +kernel
theorem dX12_runs_214 : decode cX12_runs 214 = .ok (.ladd, 1) := by decide +kernel
theorem dX12_runs_215 : decode cX12_runs 215 = .ok (.lastore, 1) := by decide +kernel
theorem dX12_runs_216 : decode cX12_runs 216 = .ok (.iinc 9 (-1), 3) := by decide +kernel
theorem dX12_runs_219 : decode cX12_runs 219 = .ok (.goto (-146), 3) := by decide +kernel
theorem dX12_runs_222 : decode cX12_runs 222 = .ok (.iinc 6 1, 3) := by decide +kernel
theorem dX12_runs_225 : decode cX12_runs 225 = .ok (.goto (-190), 3) := by decide +kernel
theorem dX12_runs_228 : decode cX12_runs 228 = .ok (.return_, 1) := by decide +kernel
theorem dX12_hasChoice_0 : decode cX12_hasChoice 0 = .ok (.iconst 0, 1) := by decide +kernel
theorem dX12_hasChoice_1 : decode cX12_hasChoice 1 = .ok (.istore_n 2, 1) := by decide +kernel
theorem dX12_hasChoice_2 : decode cX12_hasChoice 2 = .ok (.iload_n 2, 1) := by decide +kernel
theorem dX12_hasChoice_3 : decode cX12_hasChoice 3 = .ok (.aload_n 0, 1) := by decide +kernel
theorem dX12_hasChoice_4 : decode cX12_hasChoice 4 = .ok (.getfield 17, 3) := by decide +kernel
theorem dX12_hasChoice_7 : decode cX12_hasChoice 7 = .ok (.iload_n 1, 1) := by decide +kernel
theorem dX12_hasChoice_8 : decode cX12_hasChoice 8 = .ok (.iaload, 1) := by decide +kernel
theorem dX12_hasChoice_9 : decode cX12_hasChoice 9 = .ok (.if_icmp .ge 42, 3) := by decide +kernel
theorem dX12_hasChoice_12 : decode cX12_hasChoice 12 = .ok (.aload_n 0, 1) := by decide +kernel
theorem dX12_hasChoice_13 : decode cX12_hasChoice 13 = .ok (.getfield 20, 3) := by decide +kernel
theorem dX12_hasChoice_16 : decode cX12_hasChoice 16 = .ok (.bipush 40, 2) := by decide +kernel
theorem dX12_hasChoice_18 : decode cX12_hasChoice 18 = .ok (.iload_n 1, 1) := by decide +kernel
theorem dX12_hasChoice_19 : decode cX12_hasChoice 19 = .ok (.imul, 1) := by decide +kernel
theorem dX12_hasChoice_20 : decode cX12_hasChoice 20 = .ok (.iload_n 2, 1) := by decide +kernel
theorem dX12_hasChoice_21 : decode cX12_hasChoice 21 = .ok (.iadd, 1) := by decide +kernel
theorem dX12_hasChoice_22 : decode cX12_hasChoice 22 = .ok (.iaload, 1) := by decide +kernel
theorem dX12_hasChoice_23 : decode cX12_hasChoice 23 = .ok (.iconst 4, 1) := by decide +kernel
theorem dX12_hasChoice_24 : decode cX12_hasChoice 24 = .ok (.if_icmp .eq 19, 3) := by decide +kernel
theorem dX12_hasChoice_27 : decode cX12_hasChoice 27 = .ok (.aload_n 0, 1) := by decide +kernel
theorem dX12_hasChoice_28 : decode cX12_hasChoice 28 = .ok (.getfield 20, 3) := by decide +kernel
theorem dX12_hasChoice_31 : decode cX12_hasChoice 31 = .ok (.bipush 40, 2) := by decide +kernel
theorem dX12_hasChoice_33 : decode cX12_hasChoice 33 = .ok (.iload_n 1, 1) := by decide +kernel
theorem dX12_hasChoice_34 : decode cX12_hasChoice 34 = .ok (.imul, 1) := by decide +kernel
theorem dX12_hasChoice_35 : decode cX12_hasChoice 35 = .ok (.iload_n 2, 1) := by decide +kernel
theorem dX12_hasChoice_36 : decode cX12_hasChoice 36 = .ok (.iadd, 1) := by decide +kernel
theorem dX12_hasChoice_37 : decode cX12_hasChoice 37 = .ok (.iaload, 1) := by decide +kernel
theorem dX12_hasChoice_38 : decode cX12_hasChoice 38 = .ok (.bipush 7, 2) := by decide +kernel
theorem dX12_hasChoice_40 : decode cX12_hasChoice 40 = .ok (.if_icmp .ne 5, 3) := by decide +kernel
theorem dX12_hasChoice_43 : decode cX12_hasChoice 43 = .ok (.iconst 1, 1) := by decide +kernel
theorem dX12_hasChoice_44 : decode cX12_hasChoice 44 = .ok (.ireturn, 1) := by decide +kernel
theorem dX12_hasChoice_45 : decode cX12_hasChoice 45 = .ok (.iinc 2 1, 3) := by decide +kernel
theorem dX12_hasChoice_48 : decode cX12_hasChoice 48 = .ok (.goto (-46), 3) := by decide +kernel
theorem dX12_hasChoice_51 : decode cX12_hasChoice 51 = .ok (.iconst 0, 1) := by decide +kernel
theorem dX12_hasChoice_52 : decode cX12_hasChoice 52 = .ok (.ireturn, 1) := by decide +kernel
theorem dX12_parted_0 : decode cX12_parted 0 = .ok (.aload_n 0, 1) := by decide +kernel
theorem dX12_parted_1 : decode cX12_parted 1 = .ok (.iload_n 1, 1) := by decide +kernel
theorem dX12_parted_2 : decode cX12_parted 2 = .ok (.invokevirtual 337, 3) := by decide +kernel
theorem dX12_parted_5 : decode cX12_parted 5 = .ok (.ifCond .eq 39, 3) := by decide +kernel
theorem dX12_parted_8 : decode cX12_parted 8 = .ok (.aload_n 0, 1) := by decide +kernel
theorem dX12_parted_9 : decode cX12_parted 9 = .ok (.iload_n 2, 1) := by decide +kernel
theorem dX12_parted_10 : decode cX12_parted 10 = .ok (.invokevirtual 337, 3) := by decide +kernel
theorem dX12_parted_13 : decode cX12_parted 13 = .ok (.ifCond .eq 31, 3) := by decide +kernel
theorem dX12_parted_16 : decode cX12_parted 16 = .ok (.iload_n 3, 1) := by decide +kernel
theorem dX12_parted_17 : decode cX12_parted 17 = .ok (.i2l, 1) := by decide +kernel
theorem dX12_parted_18 : decode cX12_parted 18 = .ok (.lconst 1, 1) := by decide +kernel
theorem dX12_parted_19 : decode cX12_parted 19 = .ok (.ldc2_w 441, 3) := by decide +kernel
theorem dX12_parted_22 : decode cX12_parted 22 = .ok (.invokestatic 245, 3) := by decide +kernel
theorem dX12_parted_25 : decode cX12_parted 25 = .ok (.ifCond .eq 19, 3) := by decide +kernel
theorem dX12_parted_28 : decode cX12_parted 28 = .ok (.aload_n 0, 1) := by decide +kernel
theorem dX12_parted_29 : decode cX12_parted 29 = .ok (.iload_n 1, 1) := by decide +kernel
theorem dX12_parted_30 : decode cX12_parted 30 = .ok (.invokevirtual 501, 3) := by decide +kernel
theorem dX12_parted_33 : decode cX12_parted 33 = .ok (.ifCond .ne 11, 3) := by decide +kernel
theorem dX12_parted_36 : decode cX12_parted 36 = .ok (.aload_n 0, 1) := by decide +kernel
theorem dX12_parted_37 : decode cX12_parted 37 = .ok (.iload_n 2, 1) := by decide +kernel
theorem dX12_parted_38 : decode cX12_parted 38 = .ok (.invokevirtual 501, 3) := by decide +kernel
theorem dX12_parted_41 : decode cX12_parted 41 = .ok (.ifCond .eq 5, 3) := by decide +kernel
theorem dX12_parted_44 : decode cX12_parted 44 = .ok (.iconst (-1), 1) := by decide +kernel
theorem dX12_parted_45 : decode cX12_parted 45 = .ok (.ireturn, 1) := by decide +kernel
theorem dX12_parted_46 : decode cX12_parted 46 = .ok (.aload_n 0, 1) := by decide +kernel
theorem dX12_parted_47 : decode cX12_parted 47 = .ok (.invokevirtual 479, 3) := by decide +kernel
theorem dX12_parted_50 : decode cX12_parted 50 = .ok (.iconst 0, 1) := by decide +kernel
theorem dX12_parted_51 : decode cX12_parted 51 = .ok (.istore 4, 2) := by decide +kernel
theorem dX12_parted_53 : decode cX12_parted 53 = .ok (.iload 4, 2) := by decide +kernel
theorem dX12_parted_55 : decode cX12_parted 55 = .ok (.aload_n 0, 1) := by decide +kernel
theorem dX12_parted_56 : decode cX12_parted 56 = .ok (.getfield 151, 3) := by decide +kernel
theorem dX12_parted_59 : decode cX12_parted 59 = .ok (.iload_n 3, 1) := by decide +kernel
theorem dX12_parted_60 : decode cX12_parted 60 = .ok (.invokestatic 463, 3) := by decide +kernel
theorem dX12_parted_63 : decode cX12_parted 63 = .ok (.if_icmp .ge 82, 3) := by decide +kernel
theorem dX12_parted_66 : decode cX12_parted 66 = .ok (.iconst 0, 1) := by decide +kernel
theorem dX12_parted_67 : decode cX12_parted 67 = .ok (.istore 5, 2) := by decide +kernel
theorem dX12_parted_69 : decode cX12_parted 69 = .ok (.iload 5, 2) := by decide +kernel
theorem dX12_parted_71 : decode cX12_parted 71 = .ok (.iload_n 3, 1) := by decide +kernel
theorem dX12_parted_72 : decode cX12_parted 72 = .ok (.if_icmp .gt 17, 3) := by decide +kernel
theorem dX12_parted_75 : decode cX12_parted 75 = .ok (.aload_n 0, 1) := by decide +kernel
theorem dX12_parted_76 : decode cX12_parted 76 = .ok (.getfield 207, 3) := by decide +kernel
theorem dX12_parted_79 : decode cX12_parted 79 = .ok (.iload 5, 2) := by decide +kernel
theorem dX12_parted_81 : decode cX12_parted 81 = .ok (.lconst 0, 1) := by decide +kernel
theorem dX12_parted_82 : decode cX12_parted 82 = .ok (.lastore, 1) := by decide +kernel
theorem dX12_parted_83 : decode cX12_parted 83 = .ok (.iinc 5 1, 3) := by decide +kernel
theorem dX12_parted_86 : decode cX12_parted 86 = .ok (.goto (-17), 3) := by decide +kernel
theorem dX12_parted_89 : decode cX12_parted 89 = .ok (.aload_n 0, 1) := by decide +kernel
theorem dX12_parted_90 : decode cX12_parted 90 = .ok (.iload_n 1, 1) := by decide +kernel
theorem dX12_parted_91 : decode cX12_parted 91 = .ok (.iload 4, 2) := by decide +kernel
theorem dX12_parted_93 : decode cX12_parted 93 = .ok (.iload_n 3, 1) := by decide +kernel
theorem dX12_parted_94 : decode cX12_parted 94 = .ok (.lconst 1, 1) := by decide +kernel
theorem dX12_parted_95 : decode cX12_parted 95 = .ok (.invokevirtual 504, 3) := by decide +kernel
theorem dX12_parted_98 : decode cX12_parted 98 = .ok (.aload_n 0, 1) := by decide +kernel
theorem dX12_parted_99 : decode cX12_parted 99 = .ok (.iload_n 2, 1) := by decide +kernel
theorem dX12_parted_100 : decode cX12_parted 100 = .ok (.iload 4, 2) := by decide +kernel
theorem dX12_parted_102 : decode cX12_parted 102 = .ok (.iload_n 3, 1) := by decide +kernel
theorem dX12_parted_103 : decode cX12_parted 103 = .ok (.ldc2_w 293, 3) := by decide +kernel
theorem dX12_parted_106 : decode cX12_parted 106 = .ok (.invokevirtual 504, 3) := by decide +kernel
theorem dX12_parted_109 : decode cX12_parted 109 = .ok (.iconst 0, 1) := by decide +kernel
theorem dX12_parted_110 : decode cX12_parted 110 = .ok (.istore 5, 2) := by decide +kernel
theorem dX12_parted_112 : decode cX12_parted 112 = .ok (.iload 5, 2) := by decide +kernel
theorem dX12_parted_114 : decode cX12_parted 114 = .ok (.iload_n 3, 1) := by decide +kernel
theorem dX12_parted_115 : decode cX12_parted 115 = .ok (.if_icmp .gt 24, 3) := by decide +kernel
theorem dX12_parted_118 : decode cX12_parted 118 = .ok (.aload_n 0, 1) := by decide +kernel
theorem dX12_parted_119 : decode cX12_parted 119 = .ok (.getfield 207, 3) := by decide +kernel
theorem dX12_parted_122 : decode cX12_parted 122 = .ok (.iload 5, 2) := by decide +kernel
theorem dX12_parted_124 : decode cX12_parted 124 = .ok (.laload, 1) := by decide +kernel
theorem dX12_parted_125 : decode cX12_parted 125 = .ok (.lconst 0, 1) := by decide +kernel
theorem dX12_parted_126 : decode cX12_parted 126 = .ok (.lcmp, 1) := by decide +kernel
theorem dX12_parted_127 : decode cX12_parted 127 = .ok (.ifCond .eq 6, 3) := by decide +kernel
theorem dX12_parted_130 : decode cX12_parted 130 = .ok (.iload 4, 2) := by decide +kernel
theorem dX12_parted_132 : decode cX12_parted 132 = .ok (.ireturn, 1) := by decide +kernel
theorem dX12_parted_133 : decode cX12_parted 133 = .ok (.iinc 5 1, 3) := by decide +kernel
theorem dX12_parted_136 : decode cX12_parted 136 = .ok (.goto (-24), 3) := by decide +kernel
theorem dX12_parted_139 : decode cX12_parted 139 = .ok (.iinc 4 1, 3) := by decide +kernel
theorem dX12_parted_142 : decode cX12_parted 142 = .ok (.goto (-89), 3) := by decide +kernel
theorem dX12_parted_145 : decode cX12_parted 145 = .ok (.bipush (-2), 2) := by decide +kernel
theorem dX12_parted_147 : decode cX12_parted 147 = .ok (.ireturn, 1) := by decide +kernel
theorem dX12_areSums_0 : decode cX12_areSums 0 = .ok (.iload_n 3, 1) := by decide +kernel
theorem dX12_areSums_1 : decode cX12_areSums 1 = .ok (.iload_n 2, 1) := by decide +kernel
theorem dX12_areSums_2 : decode cX12_areSums 2 = .ok (.isub, 1) := by decide +kernel
theorem dX12_areSums_3 : decode cX12_areSums 3 = .ok (.iload 6, 2) := by decide +kernel
theorem dX12_areSums_5 : decode cX12_areSums 5 = .ok (.iload 5, 2) := by decide +kernel
theorem dX12_areSums_7 : decode cX12_areSums 7 = .ok (.isub, 1) := by decide +kernel
theorem dX12_areSums_8 : decode cX12_areSums 8 = .ok (.if_icmp .eq 5, 3) := by decide +kernel
theorem dX12_areSums_11 : decode cX12_areSums 11 = .ok (.iconst 0, 1) := by decide +kernel
theorem dX12_areSums_12 : decode cX12_areSums 12 = .ok (.ireturn, 1) := by decide +kernel
theorem dX12_areSums_13 : decode cX12_areSums 13 = .ok (.iconst 0, 1) := by decide +kernel
theorem dX12_areSums_14 : decode cX12_areSums 14 = .ok (.istore 7, 2) := by decide +kernel
theorem dX12_areSums_16 : decode cX12_areSums 16 = .ok (.iload 7, 2) := by decide +kernel
theorem dX12_areSums_18 : decode cX12_areSums 18 = .ok (.iload_n 3, 1) := by decide +kernel
theorem dX12_areSums_19 : decode cX12_areSums 19 = .ok (.iload_n 2, 1) := by decide +kernel
theorem dX12_areSums_20 : decode cX12_areSums 20 = .ok (.isub, 1) := by decide +kernel
theorem dX12_areSums_21 : decode cX12_areSums 21 = .ok (.if_icmp .ge 92, 3) := by decide +kernel
theorem dX12_areSums_24 : decode cX12_areSums 24 = .ok (.bipush 40, 2) := by decide +kernel
theorem dX12_areSums_26 : decode cX12_areSums 26 = .ok (.iload_n 1, 1) := by decide +kernel
theorem dX12_areSums_27 : decode cX12_areSums 27 = .ok (.bipush 40, 2) := by decide +kernel
theorem dX12_areSums_29 : decode cX12_areSums 29 = .ok (.idiv, 1) := by decide +kernel
theorem dX12_areSums_30 : decode cX12_areSums 30 = .ok (.imul, 1) := by decide +kernel
theorem dX12_areSums_31 : decode cX12_areSums 31 = .ok (.iload_n 2, 1) := by decide +kernel
theorem dX12_areSums_32 : decode cX12_areSums 32 = .ok (.iadd, 1) := by decide +kernel
theorem dX12_areSums_33 : decode cX12_areSums 33 = .ok (.iload 7, 2) := by decide +kernel
theorem dX12_areSums_35 : decode cX12_areSums 35 = .ok (.iadd, 1) := by decide +kernel
theorem dX12_areSums_36 : decode cX12_areSums 36 = .ok (.istore 8, 2) := by decide +kernel
theorem dX12_areSums_38 : decode cX12_areSums 38 = .ok (.bipush 40, 2) := by decide +kernel
theorem dX12_areSums_40 : decode cX12_areSums 40 = .ok (.iload 4, 2) := by decide +kernel
theorem dX12_areSums_42 : decode cX12_areSums 42 = .ok (.bipush 40, 2) := by decide +kernel
theorem dX12_areSums_44 : decode cX12_areSums 44 = .ok (.idiv, 1) := by decide +kernel
theorem dX12_areSums_45 : decode cX12_areSums 45 = .ok (.imul, 1) := by decide +kernel
theorem dX12_areSums_46 : decode cX12_areSums 46 = .ok (.iload 5, 2) := by decide +kernel
theorem dX12_areSums_48 : decode cX12_areSums 48 = .ok (.iadd, 1) := by decide +kernel
theorem dX12_areSums_49 : decode cX12_areSums 49 = .ok (.iload 7, 2) := by decide +kernel
theorem dX12_areSums_51 : decode cX12_areSums 51 = .ok (.iadd, 1) := by decide +kernel
theorem dX12_areSums_52 : decode cX12_areSums 52 = .ok (.istore 9, 2) := by decide +kernel
theorem dX12_areSums_54 : decode cX12_areSums 54 = .ok (.aload_n 0, 1) := by decide +kernel
theorem dX12_areSums_55 : decode cX12_areSums 55 = .ok (.getfield 53, 3) := by decide +kernel
theorem dX12_areSums_58 : decode cX12_areSums 58 = .ok (.iload 8, 2) := by decide +kernel
theorem dX12_areSums_60 : decode cX12_areSums 60 = .ok (.iaload, 1) := by decide +kernel
theorem dX12_areSums_61 : decode cX12_areSums 61 = .ok (.aload_n 0, 1) := by decide +kernel
theorem dX12_areSums_62 : decode cX12_areSums 62 = .ok (.getfield 53, 3) := by decide +kernel
theorem dX12_areSums_65 : decode cX12_areSums 65 = .ok (.iload 9, 2) := by decide +kernel
theorem dX12_areSums_67 : decode cX12_areSums 67 = .ok (.iaload, 1) := by decide +kernel
theorem dX12_areSums_68 : decode cX12_areSums 68 = .ok (.if_icmp .ne 37, 3) := by decide +kernel
theorem dX12_areSums_71 : decode cX12_areSums 71 = .ok (.aload_n 0, 1) := by decide +kernel
theorem dX12_areSums_72 : decode cX12_areSums 72 = .ok (.getfield 56, 3) := by decide +kernel
theorem dX12_areSums_75 : decode cX12_areSums 75 = .ok (.iload 8, 2) := by decide +kernel
theorem dX12_areSums_77 : decode cX12_areSums 77 = .ok (.iaload, 1) := by decide +kernel
theorem dX12_areSums_78 : decode cX12_areSums 78 = .ok (.aload_n 0, 1) := by decide +kernel
theorem dX12_areSums_79 : decode cX12_areSums 79 = .ok (.getfield 56, 3) := by decide +kernel
theorem dX12_areSums_82 : decode cX12_areSums 82 = .ok (.iload 9, 2) := by decide +kernel
theorem dX12_areSums_84 : decode cX12_areSums 84 = .ok (.iaload, 1) := by decide +kernel
theorem dX12_areSums_85 : decode cX12_areSums 85 = .ok (.if_icmp .ne 20, 3) := by decide +kernel
theorem dX12_areSums_88 : decode cX12_areSums 88 = .ok (.aload_n 0, 1) := by decide +kernel
theorem dX12_areSums_89 : decode cX12_areSums 89 = .ok (.getfield 59, 3) := by decide +kernel
theorem dX12_areSums_92 : decode cX12_areSums 92 = .ok (.iload 8, 2) := by decide +kernel
theorem dX12_areSums_94 : decode cX12_areSums 94 = .ok (.iaload, 1) := by decide +kernel
theorem dX12_areSums_95 : decode cX12_areSums 95 = .ok (.aload_n 0, 1) := by decide +kernel
theorem dX12_areSums_96 : decode cX12_areSums 96 = .ok (.getfield 59, 3) := by decide +kernel
theorem dX12_areSums_99 : decode cX12_areSums 99 = .ok (.iload 9, 2) := by decide +kernel
theorem dX12_areSums_101 : decode cX12_areSums 101 = .ok (.iaload, 1) := by decide +kernel
theorem dX12_areSums_102 : decode cX12_areSums 102 = .ok (.if_icmp .eq 5, 3) := by decide +kernel
theorem dX12_areSums_105 : decode cX12_areSums 105 = .ok (.iconst 0, 1) := by decide +kernel
theorem dX12_areSums_106 : decode cX12_areSums 106 = .ok (.ireturn, 1) := by decide +kernel
theorem dX12_areSums_107 : decode cX12_areSums 107 = .ok (.iinc 7 1, 3) := by decide +kernel
theorem dX12_areSums_110 : decode cX12_areSums 110 = .ok (.goto (-94), 3) := by decide +kernel
theorem dX12_areSums_113 : decode cX12_areSums 113 = .ok (.iconst 1, 1) := by decide +kernel
theorem dX12_areSums_114 : decode cX12_areSums 114 = .ok (.ireturn, 1) := by decide +kernel
theorem dX12_areTests_0 : decode cX12_areTests 0 = .ok (.aload_n 0, 1) := by decide +kernel
theorem dX12_areTests_1 : decode cX12_areTests 1 = .ok (.iload_n 1, 1) := by decide +kernel
theorem dX12_areTests_2 : decode cX12_areTests 2 = .ok (.aload_n 0, 1) := by decide +kernel
theorem dX12_areTests_3 : decode cX12_areTests 3 = .ok (.getfield 38, 3) := by decide +kernel
theorem dX12_areTests_6 : decode cX12_areTests 6 = .ok (.iload_n 1, 1) := by decide +kernel
theorem dX12_areTests_7 : decode cX12_areTests 7 = .ok (.iaload, 1) := by decide +kernel
theorem dX12_areTests_8 : decode cX12_areTests 8 = .ok (.aload_n 0, 1) := by decide +kernel
theorem dX12_areTests_9 : decode cX12_areTests 9 = .ok (.getfield 41, 3) := by decide +kernel
theorem dX12_areTests_12 : decode cX12_areTests 12 = .ok (.iload_n 1, 1) := by decide +kernel
theorem dX12_areTests_13 : decode cX12_areTests 13 = .ok (.iaload, 1) := by decide +kernel
theorem dX12_areTests_14 : decode cX12_areTests 14 = .ok (.iload_n 2, 1) := by decide +kernel
theorem dX12_areTests_15 : decode cX12_areTests 15 = .ok (.aload_n 0, 1) := by decide +kernel
theorem dX12_areTests_16 : decode cX12_areTests 16 = .ok (.getfield 38, 3) := by decide +kernel
theorem dX12_areTests_19 : decode cX12_areTests 19 = .ok (.iload_n 2, 1) := by decide +kernel
theorem dX12_areTests_20 : decode cX12_areTests 20 = .ok (.iaload, 1) := by decide +kernel
theorem dX12_areTests_21 : decode cX12_areTests 21 = .ok (.aload_n 0, 1) := by decide +kernel
theorem dX12_areTests_22 : decode cX12_areTests 22 = .ok (.getfield 41, 3) := by decide +kernel
theorem dX12_areTests_25 : decode cX12_areTests 25 = .ok (.iload_n 2, 1) := by decide +kernel
theorem dX12_areTests_26 : decode cX12_areTests 26 = .ok (.iaload, 1) := by decide +kernel
theorem dX12_areTests_27 : decode cX12_areTests 27 = .ok (.invokevirtual 507, 3) := by decide +kernel
theorem dX12_areTests_30 : decode cX12_areTests 30 = .ok (.ifCond .eq 36, 3) := by decide +kernel
theorem dX12_areTests_33 : decode cX12_areTests 33 = .ok (.aload_n 0, 1) := by decide +kernel
theorem dX12_areTests_34 : decode cX12_areTests 34 = .ok (.iload_n 1, 1) := by decide +kernel
theorem dX12_areTests_35 : decode cX12_areTests 35 = .ok (.aload_n 0, 1) := by decide +kernel
theorem dX12_areTests_36 : decode cX12_areTests 36 = .ok (.getfield 41, 3) := by decide +kernel
theorem dX12_areTests_39 : decode cX12_areTests 39 = .ok (.iload_n 1, 1) := by decide +kernel
theorem dX12_areTests_40 : decode cX12_areTests 40 = .ok (.iaload, 1) := by decide +kernel
theorem dX12_areTests_41 : decode cX12_areTests 41 = .ok (.aload_n 0, 1) := by decide +kernel
theorem dX12_areTests_42 : decode cX12_areTests 42 = .ok (.getfield 44, 3) := by decide +kernel
theorem dX12_areTests_45 : decode cX12_areTests 45 = .ok (.iload_n 1, 1) := by decide +kernel
theorem dX12_areTests_46 : decode cX12_areTests 46 = .ok (.iaload, 1) := by decide +kernel
theorem dX12_areTests_47 : decode cX12_areTests 47 = .ok (.iload_n 2, 1) := by decide +kernel
theorem dX12_areTests_48 : decode cX12_areTests 48 = .ok (.aload_n 0, 1) := by decide +kernel
theorem dX12_areTests_49 : decode cX12_areTests 49 = .ok (.getfield 41, 3) := by decide +kernel
theorem dX12_areTests_52 : decode cX12_areTests 52 = .ok (.iload_n 2, 1) := by decide +kernel
theorem dX12_areTests_53 : decode cX12_areTests 53 = .ok (.iaload, 1) := by decide +kernel
theorem dX12_areTests_54 : decode cX12_areTests 54 = .ok (.aload_n 0, 1) := by decide +kernel
theorem dX12_areTests_55 : decode cX12_areTests 55 = .ok (.getfield 44, 3) := by decide +kernel
theorem dX12_areTests_58 : decode cX12_areTests 58 = .ok (.iload_n 2, 1) := by decide +kernel
theorem dX12_areTests_59 : decode cX12_areTests 59 = .ok (.iaload, 1) := by decide +kernel
theorem dX12_areTests_60 : decode cX12_areTests 60 = .ok (.invokevirtual 507, 3) := by decide +kernel
theorem dX12_areTests_63 : decode cX12_areTests 63 = .ok (.ifCond .ne 5, 3) := by decide +kernel
theorem dX12_areTests_66 : decode cX12_areTests 66 = .ok (.iconst 0, 1) := by decide +kernel
theorem dX12_areTests_67 : decode cX12_areTests 67 = .ok (.ireturn, 1) := by decide +kernel
theorem dX12_areTests_68 : decode cX12_areTests 68 = .ok (.aload_n 0, 1) := by decide +kernel
theorem dX12_areTests_69 : decode cX12_areTests 69 = .ok (.getfield 20, 3) := by decide +kernel
theorem dX12_areTests_72 : decode cX12_areTests 72 = .ok (.iload_n 1, 1) := by decide +kernel
theorem dX12_areTests_73 : decode cX12_areTests 73 = .ok (.iaload, 1) := by decide +kernel
theorem dX12_areTests_74 : decode cX12_areTests 74 = .ok (.bipush 9, 2) := by decide +kernel
theorem dX12_areTests_76 : decode cX12_areTests 76 = .ok (.if_icmp .eq 33, 3) := by decide +kernel
theorem dX12_areTests_79 : decode cX12_areTests 79 = .ok (.aload_n 0, 1) := by decide +kernel
theorem dX12_areTests_80 : decode cX12_areTests 80 = .ok (.getfield 44, 3) := by decide +kernel
theorem dX12_areTests_83 : decode cX12_areTests 83 = .ok (.iload_n 1, 1) := by decide +kernel
theorem dX12_areTests_84 : decode cX12_areTests 84 = .ok (.iaload, 1) := by decide +kernel
theorem dX12_areTests_85 : decode cX12_areTests 85 = .ok (.aload_n 0, 1) := by decide +kernel
theorem dX12_areTests_86 : decode cX12_areTests 86 = .ok (.getfield 38, 3) := by decide +kernel
theorem dX12_areTests_89 : decode cX12_areTests 89 = .ok (.iload_n 1, 1) := by decide +kernel
theorem dX12_areTests_90 : decode cX12_areTests 90 = .ok (.iaload, 1) := by decide +kernel
theorem dX12_areTests_91 : decode cX12_areTests 91 = .ok (.if_icmp .eq 18, 3) := by decide +kernel
theorem dX12_areTests_94 : decode cX12_areTests 94 = .ok (.aload_n 0, 1) := by decide +kernel
theorem dX12_areTests_95 : decode cX12_areTests 95 = .ok (.getfield 47, 3) := by decide +kernel
theorem dX12_areTests_98 : decode cX12_areTests 98 = .ok (.iload_n 1, 1) := by decide +kernel
theorem dX12_areTests_99 : decode cX12_areTests 99 = .ok (.iaload, 1) := by decide +kernel
theorem dX12_areTests_100 : decode cX12_areTests 100 = .ok (.aload_n 0, 1) := by decide +kernel
theorem dX12_areTests_101 : decode cX12_areTests 101 = .ok (.getfield 47, 3) := by decide +kernel
theorem dX12_areTests_104 : decode cX12_areTests 104 = .ok (.iload_n 2, 1) := by decide +kernel
theorem dX12_areTests_105 : decode cX12_areTests 105 = .ok (.iaload, 1) := by decide +kernel
theorem dX12_areTests_106 : decode cX12_areTests 106 = .ok (.if_icmp .ne 7, 3) := by decide +kernel
theorem dX12_areTests_109 : decode cX12_areTests 109 = .ok (.iconst 1, 1) := by decide +kernel
theorem dX12_areTests_110 : decode cX12_areTests 110 = .ok (.goto 4, 3) := by decide +kernel
theorem dX12_areTests_113 : decode cX12_areTests 113 = .ok (.iconst 0, 1) := by decide +kernel
theorem dX12_areTests_114 : decode cX12_areTests 114 = .ok (.ireturn, 1) := by decide +kernel
theorem dX12_areLike_0 : decode cX12_areLike 0 = .ok (.aload_n 0, 1) := by decide +kernel
theorem dX12_areLike_1 : decode cX12_areLike 1 = .ok (.getfield 210, 3) := by decide +kernel
theorem dX12_areLike_4 : decode cX12_areLike 4 = .ok (.iload_n 1, 1) := by decide +kernel
theorem dX12_areLike_5 : decode cX12_areLike 5 = .ok (.iaload, 1) := by decide +kernel
theorem dX12_areLike_6 : decode cX12_areLike 6 = .ok (.aload_n 0, 1) := by decide +kernel
theorem dX12_areLike_7 : decode cX12_areLike 7 = .ok (.getfield 210, 3) := by decide +kernel
theorem dX12_areLike_10 : decode cX12_areLike 10 = .ok (.iload_n 2, 1) := by decide +kernel
theorem dX12_areLike_11 : decode cX12_areLike 11 = .ok (.iaload, 1) := by decide +kernel
theorem dX12_areLike_12 : decode cX12_areLike 12 = .ok (.if_icmp .ne 18, 3) := by decide +kernel
theorem dX12_areLike_15 : decode cX12_areLike 15 = .ok (.aload_n 0, 1) := by decide +kernel
theorem dX12_areLike_16 : decode cX12_areLike 16 = .ok (.getfield 213, 3) := by decide +kernel
theorem dX12_areLike_19 : decode cX12_areLike 19 = .ok (.iload_n 1, 1) := by decide +kernel
theorem dX12_areLike_20 : decode cX12_areLike 20 = .ok (.iaload, 1) := by decide +kernel
theorem dX12_areLike_21 : decode cX12_areLike 21 = .ok (.aload_n 0, 1) := by decide +kernel
theorem dX12_areLike_22 : decode cX12_areLike 22 = .ok (.getfield 213, 3) := by decide +kernel
theorem dX12_areLike_25 : decode cX12_areLike 25 = .ok (.iload_n 2, 1) := by decide +kernel
theorem dX12_areLike_26 : decode cX12_areLike 26 = .ok (.iaload, 1) := by decide +kernel
theorem dX12_areLike_27 : decode cX12_areLike 27 = .ok (.if_icmp .eq 5, 3) := by decide +kernel
theorem dX12_areLike_30 : decode cX12_areLike 30 = .ok (.iconst 0, 1) := by decide +kernel
theorem dX12_areLike_31 : decode cX12_areLike 31 = .ok (.ireturn, 1) := by decide +kernel
theorem dX12_areLike_32 : decode cX12_areLike 32 = .ok (.aload_n 0, 1) := by decide +kernel
theorem dX12_areLike_33 : decode cX12_areLike 33 = .ok (.getfield 210, 3) := by decide +kernel
theorem dX12_areLike_36 : decode cX12_areLike 36 = .ok (.iload_n 1, 1) := by decide +kernel
theorem dX12_areLike_37 : decode cX12_areLike 37 = .ok (.iaload, 1) := by decide +kernel
theorem dX12_areLike_38 : decode cX12_areLike 38 = .ok (.ifCond .eq 13, 3) := by decide +kernel
theorem dX12_areLike_41 : decode cX12_areLike 41 = .ok (.aload_n 0, 1) := by decide +kernel
theorem dX12_areLike_42 : decode cX12_areLike 42 = .ok (.getfield 210, 3) := by decide +kernel
theorem dX12_areLike_45 : decode cX12_areLike 45 = .ok (.iload_n 1, 1) := by decide +kernel
theorem dX12_areLike_46 : decode cX12_areLike 46 = .ok (.iaload, 1) := by decide +kernel
theorem dX12_areLike_47 : decode cX12_areLike 47 = .ok (.iconst 1, 1) := by decide +kernel
theorem dX12_areLike_48 : decode cX12_areLike 48 = .ok (.if_icmp .ne 5, 3) := by decide +kernel
theorem dX12_areLike_51 : decode cX12_areLike 51 = .ok (.iconst 1, 1) := by decide +kernel
theorem dX12_areLike_52 : decode cX12_areLike 52 = .ok (.ireturn, 1) := by decide +kernel
theorem dX12_areLike_53 : decode cX12_areLike 53 = .ok (.aload_n 0, 1) := by decide +kernel
theorem dX12_areLike_54 : decode cX12_areLike 54 = .ok (.getfield 225, 3) := by decide +kernel
theorem dX12_areLike_57 : decode cX12_areLike 57 = .ok (.aload_n 0, 1) := by decide +kernel
theorem dX12_areLike_58 : decode cX12_areLike 58 = .ok (.getfield 216, 3) := by decide +kernel
theorem dX12_areLike_61 : decode cX12_areLike 61 = .ok (.iload_n 1, 1) := by decide +kernel
theorem dX12_areLike_62 : decode cX12_areLike 62 = .ok (.iaload, 1) := by decide +kernel
theorem dX12_areLike_63 : decode cX12_areLike 63 = .ok (.iaload, 1) := by decide +kernel
theorem dX12_areLike_64 : decode cX12_areLike 64 = .ok (.istore 4, 2) := by decide +kernel
theorem dX12_areLike_66 : decode cX12_areLike 66 = .ok (.aload_n 0, 1) := by decide +kernel
theorem dX12_areLike_67 : decode cX12_areLike 67 = .ok (.getfield 225, 3) := by decide +kernel
theorem dX12_areLike_70 : decode cX12_areLike 70 = .ok (.aload_n 0, 1) := by decide +kernel
theorem dX12_areLike_71 : decode cX12_areLike 71 = .ok (.getfield 216, 3) := by decide +kernel
theorem dX12_areLike_74 : decode cX12_areLike 74 = .ok (.iload_n 2, 1) := by decide +kernel
theorem dX12_areLike_75 : decode cX12_areLike 75 = .ok (.iaload, 1) := by decide +kernel
theorem dX12_areLike_76 : decode cX12_areLike 76 = .ok (.iaload, 1) := by decide +kernel
theorem dX12_areLike_77 : decode cX12_areLike 77 = .ok (.istore 5, 2) := by decide +kernel
theorem dX12_areLike_79 : decode cX12_areLike 79 = .ok (.aload_n 0, 1) := by decide +kernel
theorem dX12_areLike_80 : decode cX12_areLike 80 = .ok (.getfield 210, 3) := by decide +kernel
theorem dX12_areLike_83 : decode cX12_areLike 83 = .ok (.iload_n 1, 1) := by decide +kernel
theorem dX12_areLike_84 : decode cX12_areLike 84 = .ok (.iaload, 1) := by decide +kernel
theorem dX12_areLike_85 : decode cX12_areLike 85 = .ok (.iconst 3, 1) := by decide +kernel
theorem dX12_areLike_86 : decode cX12_areLike 86 = .ok (.if_icmp .eq 55, 3) := by decide +kernel
theorem dX12_areLike_89 : decode cX12_areLike 89 = .ok (.aload_n 0, 1) := by decide +kernel
theorem dX12_areLike_90 : decode cX12_areLike 90 = .ok (.getfield 210, 3) := by decide +kernel
theorem dX12_areLike_93 : decode cX12_areLike 93 = .ok (.iload_n 1, 1) := by decide +kernel
theorem dX12_areLike_94 : decode cX12_areLike 94 = .ok (.iaload, 1) := by decide +kernel
theorem dX12_areLike_95 : decode cX12_areLike 95 = .ok (.iconst 4, 1) := by decide +kernel
theorem dX12_areLike_96 : decode cX12_areLike 96 = .ok (.if_icmp .eq 45, 3) := by decide +kernel
theorem dX12_areLike_99 : decode cX12_areLike 99 = .ok (.aload_n 0, 1) := by decide +kernel
theorem dX12_areLike_100 : decode cX12_areLike 100 = .ok (.getfield 210, 3) := by decide +kernel
theorem dX12_areLike_103 : decode cX12_areLike 103 = .ok (.iload_n 1, 1) := by decide +kernel
theorem dX12_areLike_104 : decode cX12_areLike 104 = .ok (.iaload, 1) := by decide +kernel
theorem dX12_areLike_105 : decode cX12_areLike 105 = .ok (.iconst 5, 1) := by decide +kernel
theorem dX12_areLike_106 : decode cX12_areLike 106 = .ok (.if_icmp .eq 35, 3) := by decide +kernel
theorem dX12_areLike_109 : decode cX12_areLike 109 = .ok (.iload 4, 2) := by decide +kernel
theorem dX12_areLike_111 : decode cX12_areLike 111 = .ok (.iload 5, 2) := by decide +kernel
theorem dX12_areLike_113 : decode cX12_areLike 113 = .ok (.if_icmp .ne 26, 3) := by decide +kernel
theorem dX12_areLike_116 : decode cX12_areLike 116 = .ok (.aload_n 0, 1) := by decide +kernel
theorem dX12_areLike_117 : decode cX12_areLike 117 = .ok (.aload_n 0, 1) := by decide +kernel
theorem dX12_areLike_118 : decode cX12_areLike 118 = .ok (.getfield 222, 3) := by decide +kernel
theorem dX12_areLike_121 : decode cX12_areLike 121 = .ok (.iload_n 1, 1) := by decide +kernel
theorem dX12_areLike_122 : decode cX12_areLike 122 = .ok (.iaload, 1) := by decide +kernel
theorem dX12_areLike_123 : decode cX12_areLike 123 = .ok (.aload_n 0, 1) := by decide +kernel
theorem dX12_areLike_124 : decode cX12_areLike 124 = .ok (.getfield 222, 3) := by decide +kernel
theorem dX12_areLike_127 : decode cX12_areLike 127 = .ok (.iload_n 2, 1) := by decide +kernel
theorem dX12_areLike_128 : decode cX12_areLike 128 = .ok (.iaload, 1) := by decide +kernel
theorem dX12_areLike_129 : decode cX12_areLike 129 = .ok (.invokevirtual 511, 3) := by decide +kernel
theorem dX12_areLike_132 : decode cX12_areLike 132 = .ok (.ifCond .eq 7, 3) := by decide +kernel
theorem dX12_areLike_135 : decode cX12_areLike 135 = .ok (.iconst 1, 1) := by decide +kernel
theorem dX12_areLike_136 : decode cX12_areLike 136 = .ok (.goto 4, 3) := by decide +kernel
theorem dX12_areLike_139 : decode cX12_areLike 139 = .ok (.iconst 0, 1) := by decide +kernel
theorem dX12_areLike_140 : decode cX12_areLike 140 = .ok (.ireturn, 1) := by decide +kernel
theorem dX12_areLike_141 : decode cX12_areLike 141 = .ok (.aload_n 0, 1) := by decide +kernel
theorem dX12_areLike_142 : decode cX12_areLike 142 = .ok (.getfield 225, 3) := by decide +kernel
theorem dX12_areLike_145 : decode cX12_areLike 145 = .ok (.aload_n 0, 1) := by decide +kernel
theorem dX12_areLike_146 : decode cX12_areLike 146 = .ok (.getfield 219, 3) := by decide +kernel
theorem dX12_areLike_149 : decode cX12_areLike 149 = .ok (.iload_n 1, 1) := by decide +kernel
theorem dX12_areLike_150 : decode cX12_areLike 150 = .ok (.iaload, 1) := by decide +kernel
theorem dX12_areLike_151 : decode cX12_areLike 151 = .ok (.iaload, 1) := by decide +kernel
theorem dX12_areLike_152 : decode cX12_areLike 152 = .ok (.istore 6, 2) := by decide +kernel
theorem dX12_areLike_154 : decode cX12_areLike 154 = .ok (.aload_n 0, 1) := by decide +kernel
theorem dX12_areLike_155 : decode cX12_areLike 155 = .ok (.getfield 225, 3) := by decide +kernel
theorem dX12_areLike_158 : decode cX12_areLike 158 = .ok (.aload_n 0, 1) := by decide +kernel
theorem dX12_areLike_159 : decode cX12_areLike 159 = .ok (.getfield 219, 3) := by decide +kernel
theorem dX12_areLike_162 : decode cX12_areLike 162 = .ok (.iload_n 2, 1) := by decide +kernel
theorem dX12_areLike_163 : decode cX12_areLike 163 = .ok (.iaload, 1) := by decide +kernel
theorem dX12_areLike_164 : decode cX12_areLike 164 = .ok (.iaload, 1) := by decide +kernel
theorem dX12_areLike_165 : decode cX12_areLike 165 = .ok (.istore 7, 2) := by decide +kernel
theorem dX12_areLike_167 : decode cX12_areLike 167 = .ok (.iload 4, 2) := by decide +kernel
theorem dX12_areLike_169 : decode cX12_areLike 169 = .ok (.iload 5, 2) := by decide +kernel
theorem dX12_areLike_171 : decode cX12_areLike 171 = .ok (.if_icmp .ne 10, 3) := by decide +kernel
theorem dX12_areLike_174 : decode cX12_areLike 174 = .ok (.iload 6, 2) := by decide +kernel
theorem dX12_areLike_176 : decode cX12_areLike 176 = .ok (.iload 7, 2) := by decide +kernel
theorem dX12_areLike_178 : decode cX12_areLike 178 = .ok (.if_icmp .eq 31, 3) := by decide +kernel
theorem dX12_areLike_181 : decode cX12_areLike 181 = .ok (.iload_n 3, 1) := by decide +kernel
theorem dX12_areLike_182 : decode cX12_areLike 182 = .ok (.ifCond .eq 31, 3) := by decide +kernel
theorem dX12_areLike_185 : decode cX12_areLike 185 = .ok (.aload_n 0, 1) := by decide +kernel
theorem dX12_areLike_186 : decode cX12_areLike 186 = .ok (.getfield 210, 3) := by decide +kernel
theorem dX12_areLike_189 : decode cX12_areLike 189 = .ok (.iload_n 1, 1) := by decide +kernel
theorem dX12_areLike_190 : decode cX12_areLike 190 = .ok (.iaload, 1) := by decide +kernel
theorem dX12_areLike_191 : decode cX12_areLike 191 = .ok (.iconst 3, 1) := by decide +kernel
theorem dX12_areLike_192 : decode cX12_areLike 192 = .ok (.if_icmp .ne 21, 3) := by decide +kernel
theorem dX12_areLike_195 : decode cX12_areLike 195 = .ok (.iload 4, 2) := by decide +kernel
theorem dX12_areLike_197 : decode cX12_areLike 197 = .ok (.iload 7, 2) := by decide +kernel
theorem dX12_areLike_199 : decode cX12_areLike 199 = .ok (.if_icmp .ne 14, 3) := by decide +kernel
theorem dX12_areLike_202 : decode cX12_areLike 202 = .ok (.iload 6, 2) := by decide +kernel
theorem dX12_areLike_204 : decode cX12_areLike 204 = .ok (.iload 5, 2) := by decide +kernel
theorem dX12_areLike_206 : decode cX12_areLike 206 = .ok (.if_icmp .ne 7, 3) := by decide +kernel
theorem dX12_areLike_209 : decode cX12_areLike 209 = .ok (.iconst 1, 1) := by decide +kernel
theorem dX12_areLike_210 : decode cX12_areLike 210 = .ok (.goto 4, 3) := by decide +kernel
theorem dX12_areLike_213 : decode cX12_areLike 213 = .ok (.iconst 0, 1) := by decide +kernel
theorem dX12_areLike_214 : decode cX12_areLike 214 = .ok (.ireturn, 1) := by decide +kernel
theorem dX12_isAlone_0 : decode cX12_isAlone 0 = .ok (.bipush 40, 2) := by decide +kernel
theorem dX12_isAlone_2 : decode cX12_isAlone 2 = .ok (.iload_n 1, 1) := by decide +kernel
theorem dX12_isAlone_3 : decode cX12_isAlone 3 = .ok (.bipush 40, 2) := by decide +kernel
theorem dX12_isAlone_5 : decode cX12_isAlone 5 = .ok (.idiv, 1) := by decide +kernel
theorem dX12_isAlone_6 : decode cX12_isAlone 6 = .ok (.imul, 1) := by decide +kernel
theorem dX12_isAlone_7 : decode cX12_isAlone 7 = .ok (.aload_n 0, 1) := by decide +kernel
theorem dX12_isAlone_8 : decode cX12_isAlone 8 = .ok (.getfield 38, 3) := by decide +kernel
theorem dX12_isAlone_11 : decode cX12_isAlone 11 = .ok (.iload_n 1, 1) := by decide +kernel
theorem dX12_isAlone_12 : decode cX12_isAlone 12 = .ok (.iaload, 1) := by decide +kernel
theorem dX12_isAlone_13 : decode cX12_isAlone 13 = .ok (.iadd, 1) := by decide +kernel
theorem dX12_isAlone_14 : decode cX12_isAlone 14 = .ok (.istore_n 3, 1) := by decide +kernel
theorem dX12_isAlone_15 : decode cX12_isAlone 15 = .ok (.aload_n 0, 1) := by decide +kernel
theorem dX12_isAlone_16 : decode cX12_isAlone 16 = .ok (.getfield 41, 3) := by decide +kernel
theorem dX12_isAlone_19 : decode cX12_isAlone 19 = .ok (.iload_n 1, 1) := by decide +kernel
theorem dX12_isAlone_20 : decode cX12_isAlone 20 = .ok (.iaload, 1) := by decide +kernel
theorem dX12_isAlone_21 : decode cX12_isAlone 21 = .ok (.aload_n 0, 1) := by decide +kernel
theorem dX12_isAlone_22 : decode cX12_isAlone 22 = .ok (.getfield 38, 3) := by decide +kernel
theorem dX12_isAlone_25 : decode cX12_isAlone 25 = .ok (.iload_n 1, 1) := by decide +kernel
theorem dX12_isAlone_26 : decode cX12_isAlone 26 = .ok (.iaload, 1) := by decide +kernel
theorem dX12_isAlone_27 : decode cX12_isAlone 27 = .ok (.isub, 1) := by decide +kernel
theorem dX12_isAlone_28 : decode cX12_isAlone 28 = .ok (.iconst 1, 1) := by decide +kernel
theorem dX12_isAlone_29 : decode cX12_isAlone 29 = .ok (.if_icmp .ne 26, 3) := by decide +kernel
theorem dX12_isAlone_32 : decode cX12_isAlone 32 = .ok (.aload_n 0, 1) := by decide +kernel
theorem dX12_isAlone_33 : decode cX12_isAlone 33 = .ok (.getfield 56, 3) := by decide +kernel
theorem dX12_isAlone_36 : decode cX12_isAlone 36 = .ok (.iload_n 3, 1) := by decide +kernel
theorem dX12_isAlone_37 : decode cX12_isAlone 37 = .ok (.iaload, 1) := by decide +kernel
theorem dX12_isAlone_38 : decode cX12_isAlone 38 = .ok (.ifCond .ge 17, 3) := by decide +kernel
theorem dX12_isAlone_41 : decode cX12_isAlone 41 = .ok (.aload_n 0, 1) := by decide +kernel
theorem dX12_isAlone_42 : decode cX12_isAlone 42 = .ok (.getfield 59, 3) := by decide +kernel
theorem dX12_isAlone_45 : decode cX12_isAlone 45 = .ok (.iload_n 3, 1) := by decide +kernel
theorem dX12_isAlone_46 : decode cX12_isAlone 46 = .ok (.iaload, 1) := by decide +kernel
theorem dX12_isAlone_47 : decode cX12_isAlone 47 = .ok (.iload_n 2, 1) := by decide +kernel
theorem dX12_isAlone_48 : decode cX12_isAlone 48 = .ok (.if_icmp .ne 7, 3) := by decide +kernel
theorem dX12_isAlone_51 : decode cX12_isAlone 51 = .ok (.iconst 1, 1) := by decide +kernel
theorem dX12_isAlone_52 : decode cX12_isAlone 52 = .ok (.goto 4, 3) := by decide +kernel
theorem dX12_isAlone_55 : decode cX12_isAlone 55 = .ok (.iconst 0, 1) := by decide +kernel
theorem dX12_isAlone_56 : decode cX12_isAlone 56 = .ok (.ireturn, 1) := by decide +kernel
theorem dX12_lawOf_0 : decode cX12_lawOf 0 = .ok (.aload_n 0, 1) := by decide +kernel
theorem dX12_lawOf_1 : decode cX12_lawOf 1 = .ok (.getfield 216, 3) := by decide +kernel
theorem dX12_lawOf_4 : decode cX12_lawOf 4 = .ok (.iload_n 1, 1) := by decide +kernel
theorem dX12_lawOf_5 : decode cX12_lawOf 5 = .ok (.iaload, 1) := by decide +kernel
theorem dX12_lawOf_6 : decode cX12_lawOf 6 = .ok (.istore_n 3, 1) := by decide +kernel
theorem dX12_lawOf_7 : decode cX12_lawOf 7 = .ok (.aload_n 0, 1) := by decide +kernel
theorem dX12_lawOf_8 : decode cX12_lawOf 8 = .ok (.getfield 219, 3) := by decide +kernel
theorem dX12_lawOf_11 : decode cX12_lawOf 11 = .ok (.iload_n 1, 1) := by decide +kernel
theorem dX12_lawOf_12 : decode cX12_lawOf 12 = .ok (.iaload, 1) := by decide +kernel
theorem dX12_lawOf_13 : decode cX12_lawOf 13 = .ok (.istore 4, 2) := by decide +kernel
theorem dX12_lawOf_15 : decode cX12_lawOf 15 = .ok (.aload_n 0, 1) := by decide +kernel
theorem dX12_lawOf_16 : decode cX12_lawOf 16 = .ok (.getfield 210, 3) := by decide +kernel
theorem dX12_lawOf_19 : decode cX12_lawOf 19 = .ok (.iload_n 1, 1) := by decide +kernel
theorem dX12_lawOf_20 : decode cX12_lawOf 20 = .ok (.iaload, 1) := by decide +kernel
theorem dX12_lawOf_21 : decode cX12_lawOf 21 = .ok (.tableswitch 176 0 9 #[55, 57, 59, 89, 111, 111, 176, 176, 176, 133], 55) := by decide +kernel
theorem dX12_lawOf_76 : decode cX12_lawOf 76 = .ok (.iload_n 2, 1) := by decide +kernel
theorem dX12_lawOf_77 : decode cX12_lawOf 77 = .ok (.ireturn, 1) := by decide +kernel
theorem dX12_lawOf_78 : decode cX12_lawOf 78 = .ok (.iload_n 1, 1) := by decide +kernel
theorem dX12_lawOf_79 : decode cX12_lawOf 79 = .ok (.ireturn, 1) := by decide +kernel
theorem dX12_lawOf_80 : decode cX12_lawOf 80 = .ok (.iload_n 3, 1) := by decide +kernel
theorem dX12_lawOf_81 : decode cX12_lawOf 81 = .ok (.iload_n 2, 1) := by decide +kernel
theorem dX12_lawOf_82 : decode cX12_lawOf 82 = .ok (.if_icmp .ne 7, 3) := by decide +kernel
theorem dX12_lawOf_85 : decode cX12_lawOf 85 = .ok (.iload_n 2, 1) := by decide +kernel
theorem dX12_lawOf_86 : decode cX12_lawOf 86 = .ok (.goto 23, 3) := by decide +kernel
theorem dX12_lawOf_89 : decode cX12_lawOf 89 = .ok (.aload_n 0, 1) := by decide +kernel
theorem dX12_lawOf_90 : decode cX12_lawOf 90 = .ok (.getfield 210, 3) := by decide +kernel
theorem dX12_lawOf_93 : decode cX12_lawOf 93 = .ok (.iload_n 3, 1) := by decide +kernel
theorem dX12_lawOf_94 : decode cX12_lawOf 94 = .ok (.iaload, 1) := by decide +kernel
theorem dX12_lawOf_95 : decode cX12_lawOf 95 = .ok (.iconst 2, 1) := by decide +kernel
theorem dX12_lawOf_96 : decode cX12_lawOf 96 = .ok (.if_icmp .ne 12, 3) := by decide +kernel
theorem dX12_lawOf_99 : decode cX12_lawOf 99 = .ok (.aload_n 0, 1) := by decide +kernel
theorem dX12_lawOf_100 : decode cX12_lawOf 100 = .ok (.getfield 216, 3) := by decide +kernel
theorem dX12_lawOf_103 : decode cX12_lawOf 103 = .ok (.iload_n 3, 1) := by decide +kernel
theorem dX12_lawOf_104 : decode cX12_lawOf 104 = .ok (.iaload, 1) := by decide +kernel
theorem dX12_lawOf_105 : decode cX12_lawOf 105 = .ok (.goto 4, 3) := by decide +kernel
theorem dX12_lawOf_108 : decode cX12_lawOf 108 = .ok (.iload_n 1, 1) := by decide +kernel
theorem dX12_lawOf_109 : decode cX12_lawOf 109 = .ok (.ireturn, 1) := by decide +kernel
theorem dX12_lawOf_110 : decode cX12_lawOf 110 = .ok (.iload_n 3, 1) := by decide +kernel
theorem dX12_lawOf_111 : decode cX12_lawOf 111 = .ok (.iload_n 2, 1) := by decide +kernel
theorem dX12_lawOf_112 : decode cX12_lawOf 112 = .ok (.if_icmp .ne 8, 3) := by decide +kernel
theorem dX12_lawOf_115 : decode cX12_lawOf 115 = .ok (.iload 4, 2) := by decide +kernel
theorem dX12_lawOf_117 : decode cX12_lawOf 117 = .ok (.goto 14, 3) := by decide +kernel
theorem dX12_lawOf_120 : decode cX12_lawOf 120 = .ok (.iload 4, 2) := by decide +kernel
theorem dX12_lawOf_122 : decode cX12_lawOf 122 = .ok (.iload_n 2, 1) := by decide +kernel
theorem dX12_lawOf_123 : decode cX12_lawOf 123 = .ok (.if_icmp .ne 7, 3) := by decide +kernel
theorem dX12_lawOf_126 : decode cX12_lawOf 126 = .ok (.iload_n 3, 1) := by decide +kernel
theorem dX12_lawOf_127 : decode cX12_lawOf 127 = .ok (.goto 4, 3) := by decide +kernel
theorem dX12_lawOf_130 : decode cX12_lawOf 130 = .ok (.iload_n 1, 1) := by decide +kernel
theorem dX12_lawOf_131 : decode cX12_lawOf 131 = .ok (.ireturn, 1) := by decide +kernel
theorem dX12_lawOf_132 : decode cX12_lawOf 132 = .ok (.aload_n 0, 1) := by decide +kernel
theorem dX12_lawOf_133 : decode cX12_lawOf 133 = .ok (.getfield 225, 3) := by decide +kernel
theorem dX12_lawOf_136 : decode cX12_lawOf 136 = .ok (.iload_n 3, 1) := by decide +kernel
theorem dX12_lawOf_137 : decode cX12_lawOf 137 = .ok (.iaload, 1) := by decide +kernel
theorem dX12_lawOf_138 : decode cX12_lawOf 138 = .ok (.aload_n 0, 1) := by decide +kernel
theorem dX12_lawOf_139 : decode cX12_lawOf 139 = .ok (.getfield 225, 3) := by decide +kernel
theorem dX12_lawOf_142 : decode cX12_lawOf 142 = .ok (.iload 4, 2) := by decide +kernel
theorem dX12_lawOf_144 : decode cX12_lawOf 144 = .ok (.iaload, 1) := by decide +kernel
theorem dX12_lawOf_145 : decode cX12_lawOf 145 = .ok (.if_icmp .ne 7, 3) := by decide +kernel
theorem dX12_lawOf_148 : decode cX12_lawOf 148 = .ok (.iload_n 3, 1) := by decide +kernel
theorem dX12_lawOf_149 : decode cX12_lawOf 149 = .ok (.goto 4, 3) := by decide +kernel
theorem dX12_lawOf_152 : decode cX12_lawOf 152 = .ok (.iload_n 1, 1) := by decide +kernel
theorem dX12_lawOf_153 : decode cX12_lawOf 153 = .ok (.ireturn, 1) := by decide +kernel
theorem dX12_lawOf_154 : decode cX12_lawOf 154 = .ok (.iload_n 3, 1) := by decide +kernel
theorem dX12_lawOf_155 : decode cX12_lawOf 155 = .ok (.iload_n 2, 1) := by decide +kernel
theorem dX12_lawOf_156 : decode cX12_lawOf 156 = .ok (.if_icmp .eq 17, 3) := by decide +kernel
theorem dX12_lawOf_159 : decode cX12_lawOf 159 = .ok (.aload_n 0, 1) := by decide +kernel
theorem dX12_lawOf_160 : decode cX12_lawOf 160 = .ok (.aload_n 0, 1) := by decide +kernel
theorem dX12_lawOf_161 : decode cX12_lawOf 161 = .ok (.getfield 222, 3) := by decide +kernel
theorem dX12_lawOf_164 : decode cX12_lawOf 164 = .ok (.iload_n 1, 1) := by decide +kernel
theorem dX12_lawOf_165 : decode cX12_lawOf 165 = .ok (.iaload, 1) := by decide +kernel
theorem dX12_lawOf_166 : decode cX12_lawOf 166 = .ok (.iconst 0, 1) := by decide +kernel
theorem dX12_lawOf_167 : decode cX12_lawOf 167 = .ok (.invokevirtual 514, 3) := by decide +kernel
theorem dX12_lawOf_170 : decode cX12_lawOf 170 = .ok (.ifCond .eq 7, 3) := by decide +kernel
theorem dX12_lawOf_173 : decode cX12_lawOf 173 = .ok (.iload_n 2, 1) := by decide +kernel
theorem dX12_lawOf_174 : decode cX12_lawOf 174 = .ok (.goto 22, 3) := by decide +kernel
theorem dX12_lawOf_177 : decode cX12_lawOf 177 = .ok (.aload_n 0, 1) := by decide +kernel
theorem dX12_lawOf_178 : decode cX12_lawOf 178 = .ok (.aload_n 0, 1) := by decide +kernel
theorem dX12_lawOf_179 : decode cX12_lawOf 179 = .ok (.getfield 222, 3) := by decide +kernel
theorem dX12_lawOf_182 : decode cX12_lawOf 182 = .ok (.iload_n 1, 1) := by decide +kernel
theorem dX12_lawOf_183 : decode cX12_lawOf 183 = .ok (.iaload, 1) := by decide +kernel
theorem dX12_lawOf_184 : decode cX12_lawOf 184 = .ok (.iconst 1, 1) := by decide +kernel
theorem dX12_lawOf_185 : decode cX12_lawOf 185 = .ok (.invokevirtual 514, 3) := by decide +kernel
theorem dX12_lawOf_188 : decode cX12_lawOf 188 = .ok (.ifCond .eq 7, 3) := by decide +kernel
theorem dX12_lawOf_191 : decode cX12_lawOf 191 = .ok (.iload_n 3, 1) := by decide +kernel
theorem dX12_lawOf_192 : decode cX12_lawOf 192 = .ok (.goto 4, 3) := by decide +kernel
theorem dX12_lawOf_195 : decode cX12_lawOf 195 = .ok (.iload_n 1, 1) := by decide +kernel
theorem dX12_lawOf_196 : decode cX12_lawOf 196 = .ok (.ireturn, 1) := by decide +kernel
theorem dX12_lawOf_197 : decode cX12_lawOf 197 = .ok (.iload_n 3, 1) := by decide +kernel
theorem dX12_lawOf_198 : decode cX12_lawOf 198 = .ok (.iload_n 2, 1) := by decide +kernel
theorem dX12_lawOf_199 : decode cX12_lawOf 199 = .ok (.if_icmp .ne 7, 3) := by decide +kernel
theorem dX12_lawOf_202 : decode cX12_lawOf 202 = .ok (.iload_n 2, 1) := by decide +kernel
theorem dX12_lawOf_203 : decode cX12_lawOf 203 = .ok (.goto 4, 3) := by decide +kernel
theorem dX12_lawOf_206 : decode cX12_lawOf 206 = .ok (.iload_n 1, 1) := by decide +kernel
theorem dX12_lawOf_207 : decode cX12_lawOf 207 = .ok (.ireturn, 1) := by decide +kernel
theorem dX12_shortens_0 : decode cX12_shortens 0 = .ok (.bipush 41, 2) := by decide +kernel
theorem dX12_shortens_2 : decode cX12_shortens 2 = .ok (.iload_n 2, 1) := by decide +kernel
theorem dX12_shortens_3 : decode cX12_shortens 3 = .ok (.imul, 1) := by decide +kernel
theorem dX12_shortens_4 : decode cX12_shortens 4 = .ok (.istore_n 3, 1) := by decide +kernel
theorem dX12_shortens_5 : decode cX12_shortens 5 = .ok (.iload_n 3, 1) := by decide +kernel
theorem dX12_shortens_6 : decode cX12_shortens 6 = .ok (.bipush 40, 2) := by decide +kernel
theorem dX12_shortens_8 : decode cX12_shortens 8 = .ok (.iadd, 1) := by decide +kernel
theorem dX12_shortens_9 : decode cX12_shortens 9 = .ok (.istore 4, 2) := by decide +kernel
theorem dX12_shortens_11 : decode cX12_shortens 11 = .ok (.aload_n 0, 1) := by decide +kernel
theorem dX12_shortens_12 : decode cX12_shortens 12 = .ok (.getfield 210, 3) := by decide +kernel
theorem dX12_shortens_15 : decode cX12_shortens 15 = .ok (.iload 4, 2) := by decide +kernel
theorem dX12_shortens_17 : decode cX12_shortens 17 = .ok (.iconst 0, 1) := by decide +kernel
theorem dX12_shortens_18 : decode cX12_shortens 18 = .ok (.iastore, 1) := by decide +kernel
theorem dX12_shortens_19 : decode cX12_shortens 19 = .ok (.aload_n 0, 1) := by decide +kernel
theorem dX12_shortens_20 : decode cX12_shortens 20 = .ok (.getfield 213, 3) := by decide +kernel
theorem dX12_shortens_23 : decode cX12_shortens 23 = .ok (.iload 4, 2) := by decide +kernel
theorem dX12_shortens_25 : decode cX12_shortens 25 = .ok (.iconst (-1), 1) := by decide +kernel
theorem dX12_shortens_26 : decode cX12_shortens 26 = .ok (.iastore, 1) := by decide +kernel
theorem dX12_shortens_27 : decode cX12_shortens 27 = .ok (.aload_n 0, 1) := by decide +kernel
theorem dX12_shortens_28 : decode cX12_shortens 28 = .ok (.getfield 225, 3) := by decide +kernel
theorem dX12_shortens_31 : decode cX12_shortens 31 = .ok (.iload 4, 2) := by decide +kernel
theorem dX12_shortens_33 : decode cX12_shortens 33 = .ok (.iload 4, 2) := by decide +kernel
theorem dX12_shortens_35 : decode cX12_shortens 35 = .ok (.iastore, 1) := by decide +kernel
theorem dX12_shortens_36 : decode cX12_shortens 36 = .ok (.aload_n 0, 1) := by decide +kernel
theorem dX12_shortens_37 : decode cX12_shortens 37 = .ok (.getfield 228, 3) := by decide +kernel
theorem dX12_shortens_40 : decode cX12_shortens 40 = .ok (.iload 4, 2) := by decide +kernel
theorem dX12_shortens_42 : decode cX12_shortens 42 = .ok (.iload 4, 2) := by decide +kernel
theorem dX12_shortens_44 : decode cX12_shortens 44 = .ok (.iastore, 1) := by decide +kernel
theorem dX12_shortens_45 : decode cX12_shortens 45 = .ok (.aload_n 0, 1) := by decide +kernel
theorem dX12_shortens_46 : decode cX12_shortens 46 = .ok (.getfield 17, 3) := by decide +kernel
theorem dX12_shortens_49 : decode cX12_shortens 49 = .ok (.iload_n 1, 1) := by decide +kernel
theorem dX12_shortens_50 : decode cX12_shortens 50 = .ok (.iaload, 1) := by decide +kernel
theorem dX12_shortens_51 : decode cX12_shortens 51 = .ok (.iconst 1, 1) := by decide +kernel
theorem dX12_shortens_52 : decode cX12_shortens 52 = .ok (.isub, 1) := by decide +kernel
theorem dX12_shortens_53 : decode cX12_shortens 53 = .ok (.istore 5, 2) := by decide +kernel
theorem dX12_shortens_55 : decode cX12_shortens 55 = .ok (.iload 5, 2) := by decide +kernel
theorem dX12_shortens_57 : decode cX12_shortens 57 = .ok (.ifCond .lt 401, 3) := by decide +kernel
theorem dX12_shortens_60 : decode cX12_shortens 60 = .ok (.bipush 40, 2) := by decide +kernel
theorem dX12_shortens_62 : decode cX12_shortens 62 = .ok (.iload_n 1, 1) := by decide +kernel
theorem dX12_shortens_63 : decode cX12_shortens 63 = .ok (.imul, 1) := by decide +kernel
theorem dX12_shortens_64 : decode cX12_shortens 64 = .ok (.iload 5, 2) := by decide +kernel
theorem dX12_shortens_66 : decode cX12_shortens 66 = .ok (.iadd, 1) := by decide +kernel
theorem dX12_shortens_67 : decode cX12_shortens 67 = .ok (.istore 6, 2) := by decide +kernel
theorem dX12_shortens_69 : decode cX12_shortens 69 = .ok (.iload_n 3, 1) := by decide +kernel
theorem dX12_shortens_70 : decode cX12_shortens 70 = .ok (.iload 5, 2) := by decide +kernel
theorem dX12_shortens_72 : decode cX12_shortens 72 = .ok (.iadd, 1) := by decide +kernel
theorem dX12_shortens_73 : decode cX12_shortens 73 = .ok (.istore 7, 2) := by decide +kernel
theorem dX12_shortens_75 : decode cX12_shortens 75 = .ok (.aload_n 0, 1) := by decide +kernel
theorem dX12_shortens_76 : decode cX12_shortens 76 = .ok (.getfield 210, 3) := by decide +kernel
theorem dX12_shortens_79 : decode cX12_shortens 79 = .ok (.iload 7, 2) := by decide +kernel
theorem dX12_shortens_81 : decode cX12_shortens 81 = .ok (.aload_n 0, 1) := by decide +kernel
theorem dX12_shortens_82 : decode cX12_shortens 82 = .ok (.getfield 20, 3) := by decide +kernel
theorem dX12_shortens_85 : decode cX12_shortens 85 = .ok (.iload 6, 2) := by decide +kernel
theorem dX12_shortens_87 : decode cX12_shortens 87 = .ok (.iaload, 1) := by decide +kernel
theorem dX12_shortens_88 : decode cX12_shortens 88 = .ok (.iastore, 1) := by decide +kernel
theorem dX12_shortens_89 : decode cX12_shortens 89 = .ok (.aload_n 0, 1) := by decide +kernel
theorem dX12_shortens_90 : decode cX12_shortens 90 = .ok (.getfield 213, 3) := by decide +kernel
theorem dX12_shortens_93 : decode cX12_shortens 93 = .ok (.iload 7, 2) := by decide +kernel
theorem dX12_shortens_95 : decode cX12_shortens 95 = .ok (.aload_n 0, 1) := by decide +kernel
theorem dX12_shortens_96 : decode cX12_shortens 96 = .ok (.getfield 23, 3) := by decide +kernel
theorem dX12_shortens_99 : decode cX12_shortens 99 = .ok (.iload 6, 2) := by decide +kernel
theorem dX12_shortens_101 : decode cX12_shortens 101 = .ok (.iaload, 1) := by decide +kernel
theorem dX12_shortens_102 : decode cX12_shortens 102 = .ok (.iastore, 1) := by decide +kernel
theorem dX12_shortens_103 : decode cX12_shortens 103 = .ok (.aload_n 0, 1) := by decide +kernel
theorem dX12_shortens_104 : decode cX12_shortens 104 = .ok (.getfield 222, 3) := by decide +kernel
theorem dX12_shortens_107 : decode cX12_shortens 107 = .ok (.iload 7, 2) := by decide +kernel
theorem dX12_shortens_109 : decode cX12_shortens 109 = .ok (.iload 6, 2) := by decide +kernel
theorem dX12_shortens_111 : decode cX12_shortens 111 = .ok (.iastore, 1) := by decide +kernel
theorem dX12_shortens_112 : decode cX12_shortens 112 = .ok (.aload_n 0, 1) := by decide +kernel
theorem dX12_shortens_113 : decode cX12_shortens 113 = .ok (.getfield 20, 3) := by decide +kernel
theorem dX12_shortens_116 : decode cX12_shortens 116 = .ok (.iload 6, 2) := by decide +kernel
theorem dX12_shortens_118 : decode cX12_shortens 118 = .ok (.iaload, 1) := by decide +kernel
theorem dX12_shortens_119 : decode cX12_shortens 119 = .ok (.ifCond .eq 14, 3) := by decide +kernel
theorem dX12_shortens_122 : decode cX12_shortens 122 = .ok (.aload_n 0, 1) := by decide +kernel
theorem dX12_shortens_123 : decode cX12_shortens 123 = .ok (.getfield 20, 3) := by decide +kernel
theorem dX12_shortens_126 : decode cX12_shortens 126 = .ok (.iload 6, 2) := by decide +kernel
theorem dX12_shortens_128 : decode cX12_shortens 128 = .ok (.iaload, 1) := by decide +kernel
theorem dX12_shortens_129 : decode cX12_shortens 129 = .ok (.iconst 1, 1) := by decide +kernel
theorem dX12_shortens_130 : decode cX12_shortens 130 = .ok (.if_icmp .ne 7, 3) := by decide +kernel
theorem dX12_shortens_133 : decode cX12_shortens 133 = .ok (.iconst 1, 1) := by decide +kernel
theorem dX12_shortens_134 : decode cX12_shortens 134 = .ok (.goto 4, 3) := by decide +kernel
theorem dX12_shortens_137 : decode cX12_shortens 137 = .ok (.iconst 0, 1) := by decide +kernel
theorem dX12_shortens_138 : decode cX12_shortens 138 = .ok (.istore 8, 2) := by decide +kernel
theorem dX12_shortens_140 : decode cX12_shortens 140 = .ok (.aload_n 0, 1) := by decide +kernel
theorem dX12_shortens_141 : decode cX12_shortens 141 = .ok (.getfield 20, 3) := by decide +kernel
theorem dX12_shortens_144 : decode cX12_shortens 144 = .ok (.iload 6, 2) := by decide +kernel
theorem dX12_shortens_146 : decode cX12_shortens 146 = .ok (.iaload, 1) := by decide +kernel
theorem dX12_shortens_147 : decode cX12_shortens 147 = .ok (.iconst 3, 1) := by decide +kernel
theorem dX12_shortens_148 : decode cX12_shortens 148 = .ok (.if_icmp .eq 25, 3) := by decide +kernel
theorem dX12_shortens_151 : decode cX12_shortens 151 = .ok (.aload_n 0, 1) := by decide +kernel
theorem dX12_shortens_152 : decode cX12_shortens 152 = .ok (.getfield 20, 3) := by decide +kernel
theorem dX12_shortens_155 : decode cX12_shortens 155 = .ok (.iload 6, 2) := by decide +kernel
theorem dX12_shortens_157 : decode cX12_shortens 157 = .ok (.iaload, 1) := by decide +kernel
theorem dX12_shortens_158 : decode cX12_shortens 158 = .ok (.iconst 4, 1) := by decide +kernel
theorem dX12_shortens_159 : decode cX12_shortens 159 = .ok (.if_icmp .eq 14, 3) := by decide +kernel
theorem dX12_shortens_162 : decode cX12_shortens 162 = .ok (.aload_n 0, 1) := by decide +kernel
theorem dX12_shortens_163 : decode cX12_shortens 163 = .ok (.getfield 20, 3) := by decide +kernel
theorem dX12_shortens_166 : decode cX12_shortens 166 = .ok (.iload 6, 2) := by decide +kernel
theorem dX12_shortens_168 : decode cX12_shortens 168 = .ok (.iaload, 1) := by decide +kernel
theorem dX12_shortens_169 : decode cX12_shortens 169 = .ok (.iconst 5, 1) := by decide +kernel
theorem dX12_shortens_170 : decode cX12_shortens 170 = .ok (.if_icmp .ne 7, 3) := by decide +kernel
theorem dX12_shortens_173 : decode cX12_shortens 173 = .ok (.iconst 1, 1) := by decide +kernel
theorem dX12_shortens_174 : decode cX12_shortens 174 = .ok (.goto 4, 3) := by decide +kernel
theorem dX12_shortens_177 : decode cX12_shortens 177 = .ok (.iconst 0, 1) := by decide +kernel
theorem dX12_shortens_178 : decode cX12_shortens 178 = .ok (.istore 9, 2) := by decide +kernel
theorem dX12_shortens_180 : decode cX12_shortens 180 = .ok (.aload_n 0, 1) := by decide +kernel
theorem dX12_shortens_181 : decode cX12_shortens 181 = .ok (.getfield 216, 3) := by decide +kernel
theorem dX12_shortens_184 : decode cX12_shortens 184 = .ok (.iload 7, 2) := by decide +kernel
theorem dX12_shortens_186 : decode cX12_shortens 186 = .ok (.iload 8, 2) := by decide +kernel
theorem dX12_shortens_188 : decode cX12_shortens 188 = .ok (.ifCond .eq 8, 3) := by decide +kernel
theorem dX12_shortens_191 : decode cX12_shortens 191 = .ok (.iload 4, 2) := by decide +kernel
theorem dX12_shortens_193 : decode cX12_shortens 193 = .ok (.goto 20, 3) := by decide +kernel
theorem dX12_shortens_196 : decode cX12_shortens 196 = .ok (.aload_n 0, 1) := by decide +kernel
theorem dX12_shortens_197 : decode cX12_shortens 197 = .ok (.getfield 228, 3) := by decide +kernel
theorem dX12_shortens_200 : decode cX12_shortens 200 = .ok (.iload_n 3, 1) := by decide +kernel
theorem dX12_shortens_201 : decode cX12_shortens 201 = .ok (.aload_n 0, 1) := by decide +kernel
theorem dX12_shortens_202 : decode cX12_shortens 202 = .ok (.getfield 32, 3) := by decide +kernel
theorem dX12_shortens_205 : decode cX12_shortens 205 = .ok (.iload 6, 2) := by decide +kernel
theorem dX12_shortens_207 : decode cX12_shortens 207 = .ok (.iaload, 1) := by decide +kernel
theorem dX12_shortens_208 : decode cX12_shortens 208 = .ok (.bipush 40, 2) := by decide +kernel
theorem dX12_shortens_210 : decode cX12_shortens 210 = .ok (.irem, 1) := by decide +kernel
theorem dX12_shortens_211 : decode cX12_shortens 211 = .ok (.iadd, 1) := by decide +kernel
theorem dX12_shortens_212 : decode cX12_shortens 212 = .ok (.iaload, 1) := by decide +kernel
theorem dX12_shortens_213 : decode cX12_shortens 213 = .ok (.iastore, 1) := by decide +kernel
theorem dX12_shortens_214 : decode cX12_shortens 214 = .ok (.aload_n 0, 1) := by decide +kernel
theorem dX12_shortens_215 : decode cX12_shortens 215 = .ok (.getfield 219, 3) := by decide +kernel
theorem dX12_shortens_218 : decode cX12_shortens 218 = .ok (.iload 7, 2) := by decide +kernel
theorem dX12_shortens_220 : decode cX12_shortens 220 = .ok (.iload 9, 2) := by decide +kernel
theorem dX12_shortens_222 : decode cX12_shortens 222 = .ok (.ifCond .eq 23, 3) := by decide +kernel
theorem dX12_shortens_225 : decode cX12_shortens 225 = .ok (.aload_n 0, 1) := by decide +kernel
theorem dX12_shortens_226 : decode cX12_shortens 226 = .ok (.getfield 228, 3) := by decide +kernel
theorem dX12_shortens_229 : decode cX12_shortens 229 = .ok (.iload_n 3, 1) := by decide +kernel
theorem dX12_shortens_230 : decode cX12_shortens 230 = .ok (.aload_n 0, 1) := by decide +kernel
theorem dX12_shortens_231 : decode cX12_shortens 231 = .ok (.getfield 35, 3) := by decide +kernel
theorem dX12_shortens_234 : decode cX12_shortens 234 = .ok (.iload 6, 2) := by decide +kernel
theorem dX12_shortens_236 : decode cX12_shortens 236 = .ok (.iaload, 1) := by decide +kernel
theorem dX12_shortens_237 : decode cX12_shortens 237 = .ok (.bipush 40, 2) := by decide +kernel
theorem dX12_shortens_239 : decode cX12_shortens 239 = .ok (.irem, 1) := by decide +kernel
theorem dX12_shortens_240 : decode cX12_shortens 240 = .ok (.iadd, 1) := by decide +kernel
theorem dX12_shortens_241 : decode cX12_shortens 241 = .ok (.iaload, 1) := by decide +kernel
theorem dX12_shortens_242 : decode cX12_shortens 242 = .ok (.goto 5, 3) := by decide +kernel
theorem dX12_shortens_245 : decode cX12_shortens 245 = .ok (.iload 4, 2) := by decide +kernel
theorem dX12_shortens_247 : decode cX12_shortens 247 = .ok (.iastore, 1) := by decide +kernel
theorem dX12_shortens_248 : decode cX12_shortens 248 = .ok (.aload_n 0, 1) := by decide +kernel
theorem dX12_shortens_249 : decode cX12_shortens 249 = .ok (.getfield 20, 3) := by decide +kernel
theorem dX12_shortens_252 : decode cX12_shortens 252 = .ok (.iload 6, 2) := by decide +kernel
theorem dX12_shortens_254 : decode cX12_shortens 254 = .ok (.iaload, 1) := by decide +kernel
theorem dX12_shortens_255 : decode cX12_shortens 255 = .ok (.bipush 10, 2) := by decide +kernel
theorem dX12_shortens_257 : decode cX12_shortens 257 = .ok (.if_icmp .ne 84, 3) := by decide +kernel
theorem dX12_shortens_260 : decode cX12_shortens 260 = .ok (.aload_n 0, 1) := by decide +kernel
theorem dX12_shortens_261 : decode cX12_shortens 261 = .ok (.getfield 210, 3) := by decide +kernel
theorem dX12_shortens_264 : decode cX12_shortens 264 = .ok (.aload_n 0, 1) := by decide +kernel
theorem dX12_shortens_265 : decode cX12_shortens 265 = .ok (.getfield 216, 3) := by decide +kernel
theorem dX12_shortens_268 : decode cX12_shortens 268 = .ok (.iload 7, 2) := by decide +kernel
theorem dX12_shortens_270 : decode cX12_shortens 270 = .ok (.iaload, 1) := by decide +kernel
theorem dX12_shortens_271 : decode cX12_shortens 271 = .ok (.iaload, 1) := by decide +kernel
theorem dX12_shortens_272 : decode cX12_shortens 272 = .ok (.bipush 10, 2) := by decide +kernel
theorem dX12_shortens_274 : decode cX12_shortens 274 = .ok (.if_icmp .ne 67, 3) := by decide +kernel
theorem dX12_shortens_277 : decode cX12_shortens 277 = .ok (.aload_n 0, 1) := by decide +kernel
theorem dX12_shortens_278 : decode cX12_shortens 278 = .ok (.getfield 216, 3) := by decide +kernel
theorem dX12_shortens_281 : decode cX12_shortens 281 = .ok (.iload 7, 2) := by decide +kernel
theorem dX12_shortens_283 : decode cX12_shortens 283 = .ok (.iaload, 1) := by decide +kernel
theorem dX12_shortens_284 : decode cX12_shortens 284 = .ok (.istore 10, 2) := by decide +kernel
theorem dX12_shortens_286 : decode cX12_shortens 286 = .ok (.aload_n 0, 1) := by decide +kernel
theorem dX12_shortens_287 : decode cX12_shortens 287 = .ok (.getfield 213, 3) := by decide +kernel
theorem dX12_shortens_290 : decode cX12_shortens 290 = .ok (.iload 7, 2) := by decide +kernel
theorem dX12_shortens_292 : decode cX12_shortens 292 = .ok (.aload_n 0, 1) := by decide +kernel
theorem dX12_shortens_293 : decode cX12_shortens 293 = .ok (.getfield 213, 3) := by decide +kernel
theorem dX12_shortens_296 : decode cX12_shortens 296 = .ok (.iload 10, 2) := by decide +kernel
theorem dX12_shortens_298 : decode cX12_shortens 298 = .ok (.iaload, 1) := by decide +kernel
theorem dX12_shortens_299 : decode cX12_shortens 299 = .ok (.aload_n 0, 1) := by decide +kernel
theorem dX12_shortens_300 : decode cX12_shortens 300 = .ok (.getfield 213, 3) := by decide +kernel
theorem dX12_shortens_303 : decode cX12_shortens 303 = .ok (.iload 7, 2) := by decide +kernel
theorem dX12_shortens_305 : decode cX12_shortens 305 = .ok (.iaload, 1) := by decide +kernel
theorem dX12_shortens_306 : decode cX12_shortens 306 = .ok (.if_icmp .ge 13, 3) := by decide +kernel
theorem dX12_shortens_309 : decode cX12_shortens 309 = .ok (.aload_n 0, 1) := by decide +kernel
theorem dX12_shortens_310 : decode cX12_shortens 310 = .ok (.getfield 213, 3) := by decide +kernel
theorem dX12_shortens_313 : decode cX12_shortens 313 = .ok (.iload 10, 2) := by decide +kernel
theorem dX12_shortens_315 : decode cX12_shortens 315 = .ok (.iaload, 1) := by decide +kernel
theorem dX12_shortens_316 : decode cX12_shortens 316 = .ok (.goto 10, 3) := by decide +kernel
theorem dX12_shortens_319 : decode cX12_shortens 319 = .ok (.aload_n 0, 1) := by decide +kernel
theorem dX12_shortens_320 : decode cX12_shortens 320 = .ok (.getfield 213, 3) := by decide +kernel
theorem dX12_shortens_323 : decode cX12_shortens 323 = .ok (.iload 7, 2) := by decide +kernel
theorem dX12_shortens_325 : decode cX12_shortens 325 = .ok (.iaload, 1) := by decide +kernel
theorem dX12_shortens_326 : decode cX12_shortens 326 = .ok (.iastore, 1) := by decide +kernel
theorem dX12_shortens_327 : decode cX12_shortens 327 = .ok (.aload_n 0, 1) := by decide +kernel
theorem dX12_shortens_328 : decode cX12_shortens 328 = .ok (.getfield 216, 3) := by decide +kernel
theorem dX12_shortens_331 : decode cX12_shortens 331 = .ok (.iload 7, 2) := by decide +kernel
theorem dX12_shortens_333 : decode cX12_shortens 333 = .ok (.aload_n 0, 1) := by decide +kernel
theorem dX12_shortens_334 : decode cX12_shortens 334 = .ok (.getfield 216, 3) := by decide +kernel
theorem dX12_shortens_337 : decode cX12_shortens 337 = .ok (.iload 10, 2) := by decide +kernel
theorem dX12_shortens_339 : decode cX12_shortens 339 = .ok (.iaload, 1) := by decide +kernel
theorem dX12_shortens_340 : decode cX12_shortens 340 = .ok (.iastore, 1) := by decide +kernel
theorem dX12_shortens_341 : decode cX12_shortens 341 = .ok (.aload_n 0, 1) := by decide +kernel
theorem dX12_shortens_342 : decode cX12_shortens 342 = .ok (.getfield 225, 3) := by decide +kernel
theorem dX12_shortens_345 : decode cX12_shortens 345 = .ok (.iload 7, 2) := by decide +kernel
theorem dX12_shortens_347 : decode cX12_shortens 347 = .ok (.iload 7, 2) := by decide +kernel
theorem dX12_shortens_349 : decode cX12_shortens 349 = .ok (.iastore, 1) := by decide +kernel
theorem dX12_shortens_350 : decode cX12_shortens 350 = .ok (.aload_n 0, 1) := by decide +kernel
theorem dX12_shortens_351 : decode cX12_shortens 351 = .ok (.getfield 228, 3) := by decide +kernel
theorem dX12_shortens_354 : decode cX12_shortens 354 = .ok (.iload 7, 2) := by decide +kernel
theorem dX12_shortens_356 : decode cX12_shortens 356 = .ok (.aload_n 0, 1) := by decide +kernel
theorem dX12_shortens_357 : decode cX12_shortens 357 = .ok (.iload 7, 2) := by decide +kernel
theorem dX12_shortens_359 : decode cX12_shortens 359 = .ok (.iload 4, 2) := by decide +kernel
theorem dX12_shortens_361 : decode cX12_shortens 361 = .ok (.invokevirtual 517, 3) := by decide +kernel
theorem dX12_shortens_364 : decode cX12_shortens 364 = .ok (.iastore, 1) := by decide +kernel
theorem dX12_shortens_365 : decode cX12_shortens 365 = .ok (.iload_n 3, 1) := by decide +kernel
theorem dX12_shortens_366 : decode cX12_shortens 366 = .ok (.aload_n 0, 1) := by decide +kernel
theorem dX12_shortens_367 : decode cX12_shortens 367 = .ok (.getfield 17, 3) := by decide +kernel
theorem dX12_shortens_370 : decode cX12_shortens 370 = .ok (.iload_n 1, 1) := by decide +kernel
theorem dX12_shortens_371 : decode cX12_shortens 371 = .ok (.iaload, 1) := by decide +kernel
theorem dX12_shortens_372 : decode cX12_shortens 372 = .ok (.iadd, 1) := by decide +kernel
theorem dX12_shortens_373 : decode cX12_shortens 373 = .ok (.iconst 1, 1) := by decide +kernel
theorem dX12_shortens_374 : decode cX12_shortens 374 = .ok (.isub, 1) := by decide +kernel
theorem dX12_shortens_375 : decode cX12_shortens 375 = .ok (.istore 10, 2) := by decide +kernel
theorem dX12_shortens_377 : decode cX12_shortens 377 = .ok (.iload 10, 2) := by decide +kernel
theorem dX12_shortens_379 : decode cX12_shortens 379 = .ok (.iload 7, 2) := by decide +kernel
theorem dX12_shortens_381 : decode cX12_shortens 381 = .ok (.if_icmp .le 71, 3) := by decide +kernel
theorem dX12_shortens_384 : decode cX12_shortens 384 = .ok (.aload_n 0, 1) := by decide +kernel
theorem dX12_shortens_385 : decode cX12_shortens 385 = .ok (.getfield 228, 3) := by decide +kernel
theorem dX12_shortens_388 : decode cX12_shortens 388 = .ok (.iload 7, 2) := by decide +kernel
theorem dX12_shortens_390 : decode cX12_shortens 390 = .ok (.iaload, 1) := by decide +kernel
theorem dX12_shortens_391 : decode cX12_shortens 391 = .ok (.iload 7, 2) := by decide +kernel
theorem dX12_shortens_393 : decode cX12_shortens 393 = .ok (.if_icmp .ne 59, 3) := by decide +kernel
theorem dX12_shortens_396 : decode cX12_shortens 396 = .ok (.aload_n 0, 1) := by decide +kernel
theorem dX12_shortens_397 : decode cX12_shortens 397 = .ok (.getfield 225, 3) := by decide +kernel
theorem dX12_shortens_400 : decode cX12_shortens 400 = .ok (.iload 7, 2) := by decide +kernel
theorem dX12_shortens_402 : decode cX12_shortens 402 = .ok (.iaload, 1) := by decide +kernel
theorem dX12_shortens_403 : decode cX12_shortens 403 = .ok (.iload 7, 2) := by decide +kernel
theorem dX12_shortens_405 : decode cX12_shortens 405 = .ok (.if_icmp .ne 47, 3) := by decide +kernel
theorem dX12_shortens_408 : decode cX12_shortens 408 = .ok (.aload_n 0, 1) := by decide +kernel
theorem dX12_shortens_409 : decode cX12_shortens 409 = .ok (.getfield 228, 3) := by decide +kernel
theorem dX12_shortens_412 : decode cX12_shortens 412 = .ok (.iload 10, 2) := by decide +kernel
theorem dX12_shortens_414 : decode cX12_shortens 414 = .ok (.iaload, 1) := by decide +kernel
theorem dX12_shortens_415 : decode cX12_shortens 415 = .ok (.iload 10, 2) := by decide +kernel
theorem dX12_shortens_417 : decode cX12_shortens 417 = .ok (.if_icmp .ne 29, 3) := by decide +kernel
theorem dX12_shortens_420 : decode cX12_shortens 420 = .ok (.aload_n 0, 1) := by decide +kernel
theorem dX12_shortens_421 : decode cX12_shortens 421 = .ok (.iload 7, 2) := by decide +kernel
theorem dX12_shortens_423 : decode cX12_shortens 423 = .ok (.iload 10, 2) := by decide +kernel
theorem dX12_shortens_425 : decode cX12_shortens 425 = .ok (.iconst 0, 1) := by decide +kernel
theorem dX12_shortens_426 : decode cX12_shortens 426 = .ok (.invokevirtual 520, 3) := by decide +kernel
theorem dX12_shortens_429 : decode cX12_shortens 429 = .ok (.ifCond .eq 17, 3) := by decide +kernel
theorem dX12_shortens_432 : decode cX12_shortens 432 = .ok (.aload_n 0, 1) := by decide +kernel
theorem dX12_shortens_433 : decode cX12_shortens 433 = .ok (.getfield 225, 3) := by decide +kernel
theorem dX12_shortens_436 : decode cX12_shortens 436 = .ok (.iload 7, 2) := by decide +kernel
theorem dX12_shortens_438 : decode cX12_shortens 438 = .ok (.aload_n 0, 1) := by decide +kernel
theorem dX12_shortens_439 : decode cX12_shortens 439 = .ok (.getfield 225, 3) := by decide +kernel
theorem dX12_shortens_442 : decode cX12_shortens 442 = .ok (.iload 10, 2) := by decide +kernel
theorem dX12_shortens_444 : decode cX12_shortens 444 = .ok (.iaload, 1) := by decide +kernel
theorem dX12_shortens_445 : decode cX12_shortens 445 = .ok (.iastore, 1) := by decide +kernel
theorem dX12_shortens_446 : decode cX12_shortens 446 = .ok (.iinc 10 (-1), 3) := by decide +kernel
theorem dX12_shortens_449 : decode cX12_shortens 449 = .ok (.goto (-72), 3) := by decide +kernel
theorem dX12_shortens_452 : decode cX12_shortens 452 = .ok (.iinc 5 (-1), 3) := by decide +kernel
theorem dX12_shortens_455 : decode cX12_shortens 455 = .ok (.goto (-400), 3) := by decide +kernel
theorem dX12_shortens_458 : decode cX12_shortens 458 = .ok (.return_, 1) := by decide +kernel
theorem dX12_lays_0 : decode cX12_lays 0 = .ok (.aload_n 0, 1) := by decide +kernel
theorem dX12_lays_1 : decode cX12_lays 1 = .ok (.getfield 231, 3) := by decide +kernel
theorem dX12_lays_4 : decode cX12_lays 4 = .ok (.aload_n 0, 1) := by decide +kernel
theorem dX12_lays_5 : decode cX12_lays 5 = .ok (.getfield 524, 3) := by decide +kernel
theorem dX12_lays_8 : decode cX12_lays 8 = .ok (.iload_n 1, 1) := by decide +kernel
theorem dX12_lays_9 : decode cX12_lays 9 = .ok (.iastore, 1) := by decide +kernel
theorem dX12_lays_10 : decode cX12_lays 10 = .ok (.aload_n 0, 1) := by decide +kernel
theorem dX12_lays_11 : decode cX12_lays 11 = .ok (.getfield 234, 3) := by decide +kernel
theorem dX12_lays_14 : decode cX12_lays 14 = .ok (.aload_n 0, 1) := by decide +kernel
theorem dX12_lays_15 : decode cX12_lays 15 = .ok (.getfield 524, 3) := by decide +kernel
theorem dX12_lays_18 : decode cX12_lays 18 = .ok (.iload_n 2, 1) := by decide +kernel
theorem dX12_lays_19 : decode cX12_lays 19 = .ok (.iastore, 1) := by decide +kernel
theorem dX12_lays_20 : decode cX12_lays 20 = .ok (.aload_n 0, 1) := by decide +kernel
theorem dX12_lays_21 : decode cX12_lays 21 = .ok (.getfield 237, 3) := by decide +kernel
theorem dX12_lays_24 : decode cX12_lays 24 = .ok (.aload_n 0, 1) := by decide +kernel
theorem dX12_lays_25 : decode cX12_lays 25 = .ok (.getfield 524, 3) := by decide +kernel
theorem dX12_lays_28 : decode cX12_lays 28 = .ok (.iload_n 3, 1) := by decide +kernel
theorem dX12_lays_29 : decode cX12_lays 29 = .ok (.bastore, 1) := by decide +kernel
theorem dX12_lays_30 : decode cX12_lays 30 = .ok (.aload_n 0, 1) := by decide +kernel
theorem dX12_lays_31 : decode cX12_lays 31 = .ok (.dup, 1) := by decide +kernel
theorem dX12_lays_32 : decode cX12_lays 32 = .ok (.getfield 524, 3) := by decide +kernel
theorem dX12_lays_35 : decode cX12_lays 35 = .ok (.iconst 1, 1) := by decide +kernel
theorem dX12_lays_36 : decode cX12_lays 36 = .ok (.iadd, 1) := by decide +kernel
theorem dX12_lays_37 : decode cX12_lays 37 = .ok (.putfield 524, 3) := by decide +kernel
theorem dX12_lays_40 : decode cX12_lays 40 = .ok (.return_, 1) := by decide +kernel
theorem dX12_copies_0 : decode cX12_copies 0 = .ok (.iload_n 2, 1) := by decide +kernel
theorem dX12_copies_1 : decode cX12_copies 1 = .ok (.istore 5, 2) := by decide +kernel
theorem dX12_copies_3 : decode cX12_copies 3 = .ok (.iload 5, 2) := by decide +kernel
theorem dX12_copies_5 : decode cX12_copies 5 = .ok (.iload_n 3, 1) := by decide +kernel
theorem dX12_copies_6 : decode cX12_copies 6 = .ok (.if_icmp .ge 89, 3) := by decide +kernel
theorem dX12_copies_9 : decode cX12_copies 9 = .ok (.bipush 40, 2) := by decide +kernel
theorem dX12_copies_11 : decode cX12_copies 11 = .ok (.iload_n 1, 1) := by decide +kernel
theorem dX12_copies_12 : decode cX12_copies 12 = .ok (.bipush 40, 2) := by decide +kernel
theorem dX12_copies_14 : decode cX12_copies 14 = .ok (.idiv, 1) := by decide +kernel
theorem dX12_copies_15 : decode cX12_copies 15 = .ok (.imul, 1) := by decide +kernel
theorem dX12_copies_16 : decode cX12_copies 16 = .ok (.iload 5, 2) := by decide +kernel
theorem dX12_copies_18 : decode cX12_copies 18 = .ok (.iadd, 1) := by decide +kernel
theorem dX12_copies_19 : decode cX12_copies 19 = .ok (.istore 6, 2) := by decide +kernel
theorem dX12_copies_21 : decode cX12_copies 21 = .ok (.bipush 40, 2) := by decide +kernel
theorem dX12_copies_23 : decode cX12_copies 23 = .ok (.iload 4, 2) := by decide +kernel
theorem dX12_copies_25 : decode cX12_copies 25 = .ok (.imul, 1) := by decide +kernel
theorem dX12_copies_26 : decode cX12_copies 26 = .ok (.aload_n 0, 1) := by decide +kernel
theorem dX12_copies_27 : decode cX12_copies 27 = .ok (.getfield 50, 3) := by decide +kernel
theorem dX12_copies_30 : decode cX12_copies 30 = .ok (.iload 4, 2) := by decide +kernel
theorem dX12_copies_32 : decode cX12_copies 32 = .ok (.iaload, 1) := by decide +kernel
theorem dX12_copies_33 : decode cX12_copies 33 = .ok (.iadd, 1) := by decide +kernel
theorem dX12_copies_34 : decode cX12_copies 34 = .ok (.istore 7, 2) := by decide +kernel
theorem dX12_copies_36 : decode cX12_copies 36 = .ok (.aload_n 0, 1) := by decide +kernel
theorem dX12_copies_37 : decode cX12_copies 37 = .ok (.getfield 53, 3) := by decide +kernel
theorem dX12_copies_40 : decode cX12_copies 40 = .ok (.iload 7, 2) := by decide +kernel
theorem dX12_copies_42 : decode cX12_copies 42 = .ok (.aload_n 0, 1) := by decide +kernel
theorem dX12_copies_43 : decode cX12_copies 43 = .ok (.getfield 53, 3) := by decide +kernel
theorem dX12_copies_46 : decode cX12_copies 46 = .ok (.iload 6, 2) := by decide +kernel
theorem dX12_copies_48 : decode cX12_copies 48 = .ok (.iaload, 1) := by decide +kernel
theorem dX12_copies_49 : decode cX12_copies 49 = .ok (.iastore, 1) := by decide +kernel
theorem dX12_copies_50 : decode cX12_copies 50 = .ok (.aload_n 0, 1) := by decide +kernel
theorem dX12_copies_51 : decode cX12_copies 51 = .ok (.getfield 56, 3) := by decide +kernel
theorem dX12_copies_54 : decode cX12_copies 54 = .ok (.iload 7, 2) := by decide +kernel
theorem dX12_copies_56 : decode cX12_copies 56 = .ok (.aload_n 0, 1) := by decide +kernel
theorem dX12_copies_57 : decode cX12_copies 57 = .ok (.getfield 56, 3) := by decide +kernel
theorem dX12_copies_60 : decode cX12_copies 60 = .ok (.iload 6, 2) := by decide +kernel
theorem dX12_copies_62 : decode cX12_copies 62 = .ok (.iaload, 1) := by decide +kernel
theorem dX12_copies_63 : decode cX12_copies 63 = .ok (.iastore, 1) := by decide +kernel
theorem dX12_copies_64 : decode cX12_copies 64 = .ok (.aload_n 0, 1) := by decide +kernel
theorem dX12_copies_65 : decode cX12_copies 65 = .ok (.getfield 59, 3) := by decide +kernel
theorem dX12_copies_68 : decode cX12_copies 68 = .ok (.iload 7, 2) := by decide +kernel
theorem dX12_copies_70 : decode cX12_copies 70 = .ok (.aload_n 0, 1) := by decide +kernel
theorem dX12_copies_71 : decode cX12_copies 71 = .ok (.getfield 59, 3) := by decide +kernel
theorem dX12_copies_74 : decode cX12_copies 74 = .ok (.iload 6, 2) := by decide +kernel
theorem dX12_copies_76 : decode cX12_copies 76 = .ok (.iaload, 1) := by decide +kernel
theorem dX12_copies_77 : decode cX12_copies 77 = .ok (.iastore, 1) := by decide +kernel
theorem dX12_copies_78 : decode cX12_copies 78 = .ok (.aload_n 0, 1) := by decide +kernel
theorem dX12_copies_79 : decode cX12_copies 79 = .ok (.getfield 50, 3) := by decide +kernel
theorem dX12_copies_82 : decode cX12_copies 82 = .ok (.iload 4, 2) := by decide +kernel
theorem dX12_copies_84 : decode cX12_copies 84 = .ok (.dup2, 1) := by decide +kernel
theorem dX12_copies_85 : decode cX12_copies 85 = .ok (.iaload, 1) := by decide +kernel
theorem dX12_copies_86 : decode cX12_copies 86 = .ok (.iconst 1, 1) := by decide +kernel
theorem dX12_copies_87 : decode cX12_copies 87 = .ok (.iadd, 1) := by decide +kernel
theorem dX12_copies_88 : decode cX12_copies 88 = .ok (.iastore, 1) := by decide +kernel
theorem dX12_copies_89 : decode cX12_copies 89 = .ok (.iinc 5 1, 3) := by decide +kernel
theorem dX12_copies_92 : decode cX12_copies 92 = .ok (.goto (-89), 3) := by decide +kernel
theorem dX12_copies_95 : decode cX12_copies 95 = .ok (.aload_n 0, 1) := by decide +kernel
theorem dX12_copies_96 : decode cX12_copies 96 = .ok (.getfield 50, 3) := by decide +kernel
theorem dX12_copies_99 : decode cX12_copies 99 = .ok (.iload 4, 2) := by decide +kernel
theorem dX12_copies_101 : decode cX12_copies 101 = .ok (.iaload, 1) := by decide +kernel
theorem dX12_copies_102 : decode cX12_copies 102 = .ok (.ireturn, 1) := by decide +kernel
theorem dX12_laysOut_0 : decode cX12_laysOut 0 = .ok (.aload_n 0, 1) := by decide +kernel
theorem dX12_laysOut_1 : decode cX12_laysOut 1 = .ok (.getfield 17, 3) := by decide +kernel
theorem dX12_laysOut_4 : decode cX12_laysOut 4 = .ok (.iload_n 2, 1) := by decide +kernel
theorem dX12_laysOut_5 : decode cX12_laysOut 5 = .ok (.iconst 0, 1) := by decide +kernel
theorem dX12_laysOut_6 : decode cX12_laysOut 6 = .ok (.iastore, 1) := by decide +kernel
theorem dX12_laysOut_7 : decode cX12_laysOut 7 = .ok (.aload_n 0, 1) := by decide +kernel
theorem dX12_laysOut_8 : decode cX12_laysOut 8 = .ok (.getfield 50, 3) := by decide +kernel
theorem dX12_laysOut_11 : decode cX12_laysOut 11 = .ok (.iload_n 2, 1) := by decide +kernel
theorem dX12_laysOut_12 : decode cX12_laysOut 12 = .ok (.iconst 0, 1) := by decide +kernel
theorem dX12_laysOut_13 : decode cX12_laysOut 13 = .ok (.iastore, 1) := by decide +kernel
theorem dX12_laysOut_14 : decode cX12_laysOut 14 = .ok (.aload_n 0, 1) := by decide +kernel
theorem dX12_laysOut_15 : decode cX12_laysOut 15 = .ok (.iconst 0, 1) := by decide +kernel
theorem dX12_laysOut_16 : decode cX12_laysOut 16 = .ok (.putfield 524, 3) := by decide +kernel
theorem dX12_laysOut_19 : decode cX12_laysOut 19 = .ok (.aload_n 0, 1) := by decide +kernel
theorem dX12_laysOut_20 : decode cX12_laysOut 20 = .ok (.iload_n 1, 1) := by decide +kernel
theorem dX12_laysOut_21 : decode cX12_laysOut 21 = .ok (.iconst (-1), 1) := by decide +kernel
theorem dX12_laysOut_22 : decode cX12_laysOut 22 = .ok (.iconst 0, 1) := by decide +kernel
theorem dX12_laysOut_23 : decode cX12_laysOut 23 = .ok (.invokevirtual 527, 3) := by decide +kernel
theorem dX12_laysOut_26 : decode cX12_laysOut 26 = .ok (.aload_n 0, 1) := by decide +kernel
theorem dX12_laysOut_27 : decode cX12_laysOut 27 = .ok (.getfield 524, 3) := by decide +kernel
theorem dX12_laysOut_30 : decode cX12_laysOut 30 = .ok (.ifCond .le 363, 3) := by decide +kernel
theorem dX12_laysOut_33 : decode cX12_laysOut 33 = .ok (.aload_n 0, 1) := by decide +kernel
theorem dX12_laysOut_34 : decode cX12_laysOut 34 = .ok (.dup, 1) := by decide +kernel
theorem dX12_laysOut_35 : decode cX12_laysOut 35 = .ok (.getfield 524, 3) := by decide +kernel
theorem dX12_laysOut_38 : decode cX12_laysOut 38 = .ok (.iconst 1, 1) := by decide +kernel
theorem dX12_laysOut_39 : decode cX12_laysOut 39 = .ok (.isub, 1) := by decide +kernel
theorem dX12_laysOut_40 : decode cX12_laysOut 40 = .ok (.putfield 524, 3) := by decide +kernel
theorem dX12_laysOut_43 : decode cX12_laysOut 43 = .ok (.aload_n 0, 1) := by decide +kernel
theorem dX12_laysOut_44 : decode cX12_laysOut 44 = .ok (.getfield 231, 3) := by decide +kernel
theorem dX12_laysOut_47 : decode cX12_laysOut 47 = .ok (.aload_n 0, 1) := by decide +kernel
theorem dX12_laysOut_48 : decode cX12_laysOut 48 = .ok (.getfield 524, 3) := by decide +kernel
theorem dX12_laysOut_51 : decode cX12_laysOut 51 = .ok (.iaload, 1) := by decide +kernel
theorem dX12_laysOut_52 : decode cX12_laysOut 52 = .ok (.istore_n 3, 1) := by decide +kernel
theorem dX12_laysOut_53 : decode cX12_laysOut 53 = .ok (.aload_n 0, 1) := by decide +kernel
theorem dX12_laysOut_54 : decode cX12_laysOut 54 = .ok (.getfield 234, 3) := by decide +kernel
theorem dX12_laysOut_57 : decode cX12_laysOut 57 = .ok (.aload_n 0, 1) := by decide +kernel
theorem dX12_laysOut_58 : decode cX12_laysOut 58 = .ok (.getfield 524, 3) := by decide +kernel
theorem dX12_laysOut_61 : decode cX12_laysOut 61 = .ok (.iaload, 1) := by decide +kernel
theorem dX12_laysOut_62 : decode cX12_laysOut 62 = .ok (.istore 4, 2) := by decide +kernel
theorem dX12_laysOut_64 : decode cX12_laysOut 64 = .ok (.bipush 40, 2) := by decide +kernel
theorem dX12_laysOut_66 : decode cX12_laysOut 66 = .ok (.iload_n 2, 1) := by decide +kernel
theorem dX12_laysOut_67 : decode cX12_laysOut 67 = .ok (.imul, 1) := by decide +kernel
theorem dX12_laysOut_68 : decode cX12_laysOut 68 = .ok (.aload_n 0, 1) := by decide +kernel
theorem dX12_laysOut_69 : decode cX12_laysOut 69 = .ok (.getfield 17, 3) := by decide +kernel
theorem dX12_laysOut_72 : decode cX12_laysOut 72 = .ok (.iload_n 2, 1) := by decide +kernel
theorem dX12_laysOut_73 : decode cX12_laysOut 73 = .ok (.iaload, 1) := by decide +kernel
theorem dX12_laysOut_74 : decode cX12_laysOut 74 = .ok (.iadd, 1) := by decide +kernel
theorem dX12_laysOut_75 : decode cX12_laysOut 75 = .ok (.istore 5, 2) := by decide +kernel
theorem dX12_laysOut_77 : decode cX12_laysOut 77 = .ok (.aload_n 0, 1) := by decide +kernel
theorem dX12_laysOut_78 : decode cX12_laysOut 78 = .ok (.getfield 17, 3) := by decide +kernel
theorem dX12_laysOut_81 : decode cX12_laysOut 81 = .ok (.iload_n 2, 1) := by decide +kernel
theorem dX12_laysOut_82 : decode cX12_laysOut 82 = .ok (.dup2, 1) := by decide +kernel
theorem dX12_laysOut_83 : decode cX12_laysOut 83 = .ok (.iaload, 1) := by decide +kernel
theorem dX12_laysOut_84 : decode cX12_laysOut 84 = .ok (.iconst 1, 1) := by decide +kernel
theorem dX12_laysOut_85 : decode cX12_laysOut 85 = .ok (.iadd, 1) := by decide +kernel
theorem dX12_laysOut_86 : decode cX12_laysOut 86 = .ok (.iastore, 1) := by decide +kernel
theorem dX12_laysOut_87 : decode cX12_laysOut 87 = .ok (.iload 4, 2) := by decide +kernel
theorem dX12_laysOut_89 : decode cX12_laysOut 89 = .ok (.ifCond .lt 27, 3) := by decide +kernel
theorem dX12_laysOut_92 : decode cX12_laysOut 92 = .ok (.aload_n 0, 1) := by decide +kernel
theorem dX12_laysOut_93 : decode cX12_laysOut 93 = .ok (.getfield 237, 3) := by decide +kernel
theorem dX12_laysOut_96 : decode cX12_laysOut 96 = .ok (.aload_n 0, 1) := by decide +kernel
theorem dX12_laysOut_97 : decode cX12_laysOut 97 = .ok (.getfield 524, 3) := by decide +kernel
theorem dX12_laysOut_100 : decode cX12_laysOut 100 = .ok (.baload, 1) := by decide +kernel
theorem dX12_laysOut_101 : decode cX12_laysOut 101 = .ok (.ifCond .eq 15, 3) := by decide +kernel
theorem dX12_laysOut_104 : decode cX12_laysOut 104 = .ok (.aload_n 0, 1) := by decide +kernel
theorem dX12_laysOut_105 : decode cX12_laysOut 105 = .ok (.getfield 35, 3) := by decide +kernel
theorem dX12_laysOut_108 : decode cX12_laysOut 108 = .ok (.iload 4, 2) := by decide +kernel
theorem dX12_laysOut_110 : decode cX12_laysOut 110 = .ok (.iload 5, 2) := by decide +kernel
theorem dX12_laysOut_112 : decode cX12_laysOut 112 = .ok (.iastore, 1) := by decide +kernel
theorem dX12_laysOut_113 : decode cX12_laysOut 113 = .ok (.goto 17, 3) := by decide +kernel
theorem dX12_laysOut_116 : decode cX12_laysOut 116 = .ok (.iload 4, 2) := by decide +kernel
theorem dX12_laysOut_118 : decode cX12_laysOut 118 = .ok (.ifCond .lt 12, 3) := by decide +kernel
theorem dX12_laysOut_121 : decode cX12_laysOut 121 = .ok (.aload_n 0, 1) := by decide +kernel
theorem dX12_laysOut_122 : decode cX12_laysOut 122 = .ok (.getfield 32, 3) := by decide +kernel
theorem dX12_laysOut_125 : decode cX12_laysOut 125 = .ok (.iload 4, 2) := by decide +kernel
theorem dX12_laysOut_127 : decode cX12_laysOut 127 = .ok (.iload 5, 2) := by decide +kernel
theorem dX12_laysOut_129 : decode cX12_laysOut 129 = .ok (.iastore, 1) := by decide +kernel
theorem dX12_laysOut_130 : decode cX12_laysOut 130 = .ok (.aload_n 0, 1) := by decide +kernel
theorem dX12_laysOut_131 : decode cX12_laysOut 131 = .ok (.getfield 20, 3) := by decide +kernel
theorem dX12_laysOut_134 : decode cX12_laysOut 134 = .ok (.iload 5, 2) := by decide +kernel
theorem dX12_laysOut_136 : decode cX12_laysOut 136 = .ok (.aload_n 0, 1) := by decide +kernel
theorem dX12_laysOut_137 : decode cX12_laysOut 137 = .ok (.getfield 210, 3) := by decide +kernel
theorem dX12_laysOut_140 : decode cX12_laysOut 140 = .ok (.iload_n 3, 1) := by decide +kernel
theorem dX12_laysOut_141 : decode cX12_laysOut 141 = .ok (.iaload, 1) := by decide +kernel
theorem dX12_laysOut_142 : decode cX12_laysOut 142 = .ok (.iastore, 1) := by decide +kernel
theorem dX12_laysOut_143 : decode cX12_laysOut 143 = .ok (.aload_n 0, 1) := by decide +kernel
theorem dX12_laysOut_144 : decode cX12_laysOut 144 = .ok (.getfield 23, 3) := by decide +kernel
theorem dX12_laysOut_147 : decode cX12_laysOut 147 = .ok (.iload 5, 2) := by decide +kernel
theorem dX12_laysOut_149 : decode cX12_laysOut 149 = .ok (.aload_n 0, 1) := by decide +kernel
theorem dX12_laysOut_150 : decode cX12_laysOut 150 = .ok (.getfield 213, 3) := by decide +kernel
theorem dX12_laysOut_153 : decode cX12_laysOut 153 = .ok (.iload_n 3, 1) := by decide +kernel
theorem dX12_laysOut_154 : decode cX12_laysOut 154 = .ok (.iaload, 1) := by decide +kernel
theorem dX12_laysOut_155 : decode cX12_laysOut 155 = .ok (.iastore, 1) := by decide +kernel
theorem dX12_laysOut_156 : decode cX12_laysOut 156 = .ok (.aload_n 0, 1) := by decide +kernel
theorem dX12_laysOut_157 : decode cX12_laysOut 157 = .ok (.getfield 29, 3) := by decide +kernel
theorem dX12_laysOut_160 : decode cX12_laysOut 160 = .ok (.iload 5, 2) := by decide +kernel
theorem dX12_laysOut_162 : decode cX12_laysOut 162 = .ok (.iload 4, 2) := by decide +kernel
theorem dX12_laysOut_164 : decode cX12_laysOut 164 = .ok (.iastore, 1) := by decide +kernel
theorem dX12_laysOut_165 : decode cX12_laysOut 165 = .ok (.aload_n 0, 1) := by decide +kernel
theorem dX12_laysOut_166 : decode cX12_laysOut 166 = .ok (.getfield 26, 3) := by decide +kernel
theorem dX12_laysOut_169 : decode cX12_laysOut 169 = .ok (.iload 5, 2) := by decide +kernel
theorem dX12_laysOut_171 : decode cX12_laysOut 171 = .ok (.iload 4, 2) := by decide +kernel
theorem dX12_laysOut_173 : decode cX12_laysOut 173 = .ok (.ifCond .ge 7, 3) := by decide +kernel
theorem dX12_laysOut_176 : decode cX12_laysOut 176 = .ok (.iconst 0, 1) := by decide +kernel
theorem dX12_laysOut_177 : decode cX12_laysOut 177 = .ok (.goto 12, 3) := by decide +kernel
theorem dX12_laysOut_180 : decode cX12_laysOut 180 = .ok (.aload_n 0, 1) := by decide +kernel
theorem dX12_laysOut_181 : decode cX12_laysOut 181 = .ok (.getfield 26, 3) := by decide +kernel
theorem dX12_laysOut_184 : decode cX12_laysOut 184 = .ok (.iload 4, 2) := by decide +kernel
theorem dX12_laysOut_186 : decode cX12_laysOut 186 = .ok (.iaload, 1) := by decide +kernel
theorem dX12_laysOut_187 : decode cX12_laysOut 187 = .ok (.iconst 1, 1) := by decide +kernel
theorem dX12_laysOut_188 : decode cX12_laysOut 188 = .ok (.iadd, 1) := by decide +kernel
theorem dX12_laysOut_189 : decode cX12_laysOut 189 = .ok (.iastore, 1) := by decide +kernel
theorem dX12_laysOut_190 : decode cX12_laysOut 190 = .ok (.aload_n 0, 1) := by decide +kernel
theorem dX12_laysOut_191 : decode cX12_laysOut 191 = .ok (.getfield 38, 3) := by decide +kernel
theorem dX12_laysOut_194 : decode cX12_laysOut 194 = .ok (.iload 5, 2) := by decide +kernel
theorem dX12_laysOut_196 : decode cX12_laysOut 196 = .ok (.aload_n 0, 1) := by decide +kernel
theorem dX12_laysOut_197 : decode cX12_laysOut 197 = .ok (.getfield 50, 3) := by decide +kernel
theorem dX12_laysOut_200 : decode cX12_laysOut 200 = .ok (.iload_n 2, 1) := by decide +kernel
theorem dX12_laysOut_201 : decode cX12_laysOut 201 = .ok (.iaload, 1) := by decide +kernel
theorem dX12_laysOut_202 : decode cX12_laysOut 202 = .ok (.iastore, 1) := by decide +kernel
theorem dX12_laysOut_203 : decode cX12_laysOut 203 = .ok (.aload_n 0, 1) := by decide +kernel
theorem dX12_laysOut_204 : decode cX12_laysOut 204 = .ok (.getfield 41, 3) := by decide +kernel
theorem dX12_laysOut_207 : decode cX12_laysOut 207 = .ok (.iload 5, 2) := by decide +kernel
theorem dX12_laysOut_209 : decode cX12_laysOut 209 = .ok (.aload_n 0, 1) := by decide +kernel
theorem dX12_laysOut_210 : decode cX12_laysOut 210 = .ok (.getfield 50, 3) := by decide +kernel
theorem dX12_laysOut_213 : decode cX12_laysOut 213 = .ok (.iload_n 2, 1) := by decide +kernel
theorem dX12_laysOut_214 : decode cX12_laysOut 214 = .ok (.iaload, 1) := by decide +kernel
theorem dX12_laysOut_215 : decode cX12_laysOut 215 = .ok (.iastore, 1) := by decide +kernel
theorem dX12_laysOut_216 : decode cX12_laysOut 216 = .ok (.aload_n 0, 1) := by decide +kernel
theorem dX12_laysOut_217 : decode cX12_laysOut 217 = .ok (.getfield 44, 3) := by decide +kernel
theorem dX12_laysOut_220 : decode cX12_laysOut 220 = .ok (.iload 5, 2) := by decide +kernel
theorem dX12_laysOut_222 : decode cX12_laysOut 222 = .ok (.aload_n 0, 1) := by decide +kernel
theorem dX12_laysOut_223 : decode cX12_laysOut 223 = .ok (.getfield 50, 3) := by decide +kernel
theorem dX12_laysOut_226 : decode cX12_laysOut 226 = .ok (.iload_n 2, 1) := by decide +kernel
theorem dX12_laysOut_227 : decode cX12_laysOut 227 = .ok (.iaload, 1) := by decide +kernel
theorem dX12_laysOut_228 : decode cX12_laysOut 228 = .ok (.iastore, 1) := by decide +kernel
theorem dX12_laysOut_229 : decode cX12_laysOut 229 = .ok (.aload_n 0, 1) := by decide +kernel
theorem dX12_laysOut_230 : decode cX12_laysOut 230 = .ok (.getfield 20, 3) := by decide +kernel
theorem dX12_laysOut_233 : decode cX12_laysOut 233 = .ok (.iload 5, 2) := by decide +kernel
theorem dX12_laysOut_235 : decode cX12_laysOut 235 = .ok (.iaload, 1) := by decide +kernel
theorem dX12_laysOut_236 : decode cX12_laysOut 236 = .ok (.ifCond .eq (-210), 3) := by decide +kernel
theorem dX12_laysOut_239 : decode cX12_laysOut 239 = .ok (.aload_n 0, 1) := by decide +kernel
theorem dX12_laysOut_240 : decode cX12_laysOut 240 = .ok (.getfield 20, 3) := by decide +kernel
theorem dX12_laysOut_243 : decode cX12_laysOut 243 = .ok (.iload 5, 2) := by decide +kernel
theorem dX12_laysOut_245 : decode cX12_laysOut 245 = .ok (.iaload, 1) := by decide +kernel
theorem dX12_laysOut_246 : decode cX12_laysOut 246 = .ok (.iconst 1, 1) := by decide +kernel
theorem dX12_laysOut_247 : decode cX12_laysOut 247 = .ok (.if_icmp .ne 6, 3) := by decide +kernel
theorem dX12_laysOut_250 : decode cX12_laysOut 250 = .ok (.goto (-224), 3) := by decide +kernel
theorem dX12_laysOut_253 : decode cX12_laysOut 253 = .ok (.aload_n 0, 1) := by decide +kernel
theorem dX12_laysOut_254 : decode cX12_laysOut 254 = .ok (.getfield 222, 3) := by decide +kernel
theorem dX12_laysOut_257 : decode cX12_laysOut 257 = .ok (.iload_n 3, 1) := by decide +kernel
theorem dX12_laysOut_258 : decode cX12_laysOut 258 = .ok (.iaload, 1) := by decide +kernel
theorem dX12_laysOut_259 : decode cX12_laysOut 259 = .ok (.istore 6, 2) := by decide +kernel
theorem dX12_laysOut_261 : decode cX12_laysOut 261 = .ok (.aload_n 0, 1) := by decide +kernel
theorem dX12_laysOut_262 : decode cX12_laysOut 262 = .ok (.getfield 41, 3) := by decide +kernel
theorem dX12_laysOut_265 : decode cX12_laysOut 265 = .ok (.iload 5, 2) := by decide +kernel
theorem dX12_laysOut_267 : decode cX12_laysOut 267 = .ok (.aload_n 0, 1) := by decide +kernel
theorem dX12_laysOut_268 : decode cX12_laysOut 268 = .ok (.iload 6, 2) := by decide +kernel
theorem dX12_laysOut_270 : decode cX12_laysOut 270 = .ok (.aload_n 0, 1) := by decide +kernel
theorem dX12_laysOut_271 : decode cX12_laysOut 271 = .ok (.getfield 38, 3) := by decide +kernel
theorem dX12_laysOut_274 : decode cX12_laysOut 274 = .ok (.iload 6, 2) := by decide +kernel
theorem dX12_laysOut_276 : decode cX12_laysOut 276 = .ok (.iaload, 1) := by decide +kernel
theorem dX12_laysOut_277 : decode cX12_laysOut 277 = .ok (.aload_n 0, 1) := by decide +kernel
theorem dX12_laysOut_278 : decode cX12_laysOut 278 = .ok (.getfield 41, 3) := by decide +kernel
theorem dX12_laysOut_281 : decode cX12_laysOut 281 = .ok (.iload 6, 2) := by decide +kernel
theorem dX12_laysOut_283 : decode cX12_laysOut 283 = .ok (.iaload, 1) := by decide +kernel
theorem dX12_laysOut_284 : decode cX12_laysOut 284 = .ok (.iload_n 2, 1) := by decide +kernel
theorem dX12_laysOut_285 : decode cX12_laysOut 285 = .ok (.invokevirtual 531, 3) := by decide +kernel
theorem dX12_laysOut_288 : decode cX12_laysOut 288 = .ok (.iastore, 1) := by decide +kernel
theorem dX12_laysOut_289 : decode cX12_laysOut 289 = .ok (.aload_n 0, 1) := by decide +kernel
theorem dX12_laysOut_290 : decode cX12_laysOut 290 = .ok (.getfield 44, 3) := by decide +kernel
theorem dX12_laysOut_293 : decode cX12_laysOut 293 = .ok (.iload 5, 2) := by decide +kernel
theorem dX12_laysOut_295 : decode cX12_laysOut 295 = .ok (.aload_n 0, 1) := by decide +kernel
theorem dX12_laysOut_296 : decode cX12_laysOut 296 = .ok (.iload 6, 2) := by decide +kernel
theorem dX12_laysOut_298 : decode cX12_laysOut 298 = .ok (.aload_n 0, 1) := by decide +kernel
theorem dX12_laysOut_299 : decode cX12_laysOut 299 = .ok (.getfield 41, 3) := by decide +kernel
theorem dX12_laysOut_302 : decode cX12_laysOut 302 = .ok (.iload 6, 2) := by decide +kernel
theorem dX12_laysOut_304 : decode cX12_laysOut 304 = .ok (.iaload, 1) := by decide +kernel
theorem dX12_laysOut_305 : decode cX12_laysOut 305 = .ok (.aload_n 0, 1) := by decide +kernel
theorem dX12_laysOut_306 : decode cX12_laysOut 306 = .ok (.getfield 44, 3) := by decide +kernel
theorem dX12_laysOut_309 : decode cX12_laysOut 309 = .ok (.iload 6, 2) := by decide +kernel
theorem dX12_laysOut_311 : decode cX12_laysOut 311 = .ok (.iaload, 1) := by decide +kernel
theorem dX12_laysOut_312 : decode cX12_laysOut 312 = .ok (.iload_n 2, 1) := by decide +kernel
theorem dX12_laysOut_313 : decode cX12_laysOut 313 = .ok (.invokevirtual 531, 3) := by decide +kernel
theorem dX12_laysOut_316 : decode cX12_laysOut 316 = .ok (.iastore, 1) := by decide +kernel
theorem dX12_laysOut_317 : decode cX12_laysOut 317 = .ok (.aload_n 0, 1) := by decide +kernel
theorem dX12_laysOut_318 : decode cX12_laysOut 318 = .ok (.getfield 47, 3) := by decide +kernel
theorem dX12_laysOut_321 : decode cX12_laysOut 321 = .ok (.iload 5, 2) := by decide +kernel
theorem dX12_laysOut_323 : decode cX12_laysOut 323 = .ok (.aload_n 0, 1) := by decide +kernel
theorem dX12_laysOut_324 : decode cX12_laysOut 324 = .ok (.getfield 47, 3) := by decide +kernel
theorem dX12_laysOut_327 : decode cX12_laysOut 327 = .ok (.iload 6, 2) := by decide +kernel
theorem dX12_laysOut_329 : decode cX12_laysOut 329 = .ok (.iaload, 1) := by decide +kernel
theorem dX12_laysOut_330 : decode cX12_laysOut 330 = .ok (.iastore, 1) := by decide +kernel
theorem dX12_laysOut_331 : decode cX12_laysOut 331 = .ok (.aload_n 0, 1) := by decide +kernel
theorem dX12_laysOut_332 : decode cX12_laysOut 332 = .ok (.getfield 20, 3) := by decide +kernel
theorem dX12_laysOut_335 : decode cX12_laysOut 335 = .ok (.iload 5, 2) := by decide +kernel
theorem dX12_laysOut_337 : decode cX12_laysOut 337 = .ok (.iaload, 1) := by decide +kernel
theorem dX12_laysOut_338 : decode cX12_laysOut 338 = .ok (.iconst 3, 1) := by decide +kernel
theorem dX12_laysOut_339 : decode cX12_laysOut 339 = .ok (.if_icmp .eq 25, 3) := by decide +kernel
theorem dX12_laysOut_342 : decode cX12_laysOut 342 = .ok (.aload_n 0, 1) := by decide +kernel
theorem dX12_laysOut_343 : decode cX12_laysOut 343 = .ok (.getfield 20, 3) := by decide +kernel
theorem dX12_laysOut_346 : decode cX12_laysOut 346 = .ok (.iload 5, 2) := by decide +kernel
theorem dX12_laysOut_348 : decode cX12_laysOut 348 = .ok (.iaload, 1) := by decide +kernel
theorem dX12_laysOut_349 : decode cX12_laysOut 349 = .ok (.iconst 4, 1) := by decide +kernel
theorem dX12_laysOut_350 : decode cX12_laysOut 350 = .ok (.if_icmp .eq 14, 3) := by decide +kernel
theorem dX12_laysOut_353 : decode cX12_laysOut 353 = .ok (.aload_n 0, 1) := by decide +kernel
theorem dX12_laysOut_354 : decode cX12_laysOut 354 = .ok (.getfield 20, 3) := by decide +kernel
theorem dX12_laysOut_357 : decode cX12_laysOut 357 = .ok (.iload 5, 2) := by decide +kernel
theorem dX12_laysOut_359 : decode cX12_laysOut 359 = .ok (.iaload, 1) := by decide +kernel
theorem dX12_laysOut_360 : decode cX12_laysOut 360 = .ok (.iconst 5, 1) := by decide +kernel
theorem dX12_laysOut_361 : decode cX12_laysOut 361 = .ok (.if_icmp .ne 16, 3) := by decide +kernel
theorem dX12_laysOut_364 : decode cX12_laysOut 364 = .ok (.aload_n 0, 1) := by decide +kernel
theorem dX12_laysOut_365 : decode cX12_laysOut 365 = .ok (.aload_n 0, 1) := by decide +kernel
theorem dX12_laysOut_366 : decode cX12_laysOut 366 = .ok (.getfield 219, 3) := by decide +kernel
theorem dX12_laysOut_369 : decode cX12_laysOut 369 = .ok (.iload_n 3, 1) := by decide +kernel
theorem dX12_laysOut_370 : decode cX12_laysOut 370 = .ok (.iaload, 1) := by decide +kernel
theorem dX12_laysOut_371 : decode cX12_laysOut 371 = .ok (.iload 5, 2) := by decide +kernel
theorem dX12_laysOut_373 : decode cX12_laysOut 373 = .ok (.iconst 1, 1) := by decide +kernel
theorem dX12_laysOut_374 : decode cX12_laysOut 374 = .ok (.invokevirtual 527, 3) := by decide +kernel
theorem dX12_laysOut_377 : decode cX12_laysOut 377 = .ok (.aload_n 0, 1) := by decide +kernel
theorem dX12_laysOut_378 : decode cX12_laysOut 378 = .ok (.aload_n 0, 1) := by decide +kernel
theorem dX12_laysOut_379 : decode cX12_laysOut 379 = .ok (.getfield 216, 3) := by decide +kernel
theorem dX12_laysOut_382 : decode cX12_laysOut 382 = .ok (.iload_n 3, 1) := by decide +kernel
theorem dX12_laysOut_383 : decode cX12_laysOut 383 = .ok (.iaload, 1) := by decide +kernel
theorem dX12_laysOut_384 : decode cX12_laysOut 384 = .ok (.iload 5, 2) := by decide +kernel
theorem dX12_laysOut_386 : decode cX12_laysOut 386 = .ok (.iconst 0, 1) := by decide +kernel
theorem dX12_laysOut_387 : decode cX12_laysOut 387 = .ok (.invokevirtual 527, 3) := by decide +kernel
theorem dX12_laysOut_390 : decode cX12_laysOut 390 = .ok (.goto (-364), 3) := by decide +kernel
theorem dX12_laysOut_393 : decode cX12_laysOut 393 = .ok (.return_, 1) := by decide +kernel
theorem dX12_shorter_0 : decode cX12_shorter 0 = .ok (.aload_n 0, 1) := by decide +kernel
theorem dX12_shorter_1 : decode cX12_shorter 1 = .ok (.iload_n 1, 1) := by decide +kernel
theorem dX12_shorter_2 : decode cX12_shorter 2 = .ok (.invokevirtual 337, 3) := by decide +kernel
theorem dX12_shorter_5 : decode cX12_shorter 5 = .ok (.ifCond .eq 12, 3) := by decide +kernel
theorem dX12_shorter_8 : decode cX12_shorter 8 = .ok (.aload_n 0, 1) := by decide +kernel
theorem dX12_shorter_9 : decode cX12_shorter 9 = .ok (.getfield 307, 3) := by decide +kernel
theorem dX12_shorter_12 : decode cX12_shorter 12 = .ok (.bipush 20, 2) := by decide +kernel
theorem dX12_shorter_14 : decode cX12_shorter 14 = .ok (.if_icmp .ne 5, 3) := by decide +kernel
theorem dX12_shorter_17 : decode cX12_shorter 17 = .ok (.iconst (-1), 1) := by decide +kernel
theorem dX12_shorter_18 : decode cX12_shorter 18 = .ok (.ireturn, 1) := by decide +kernel
theorem dX12_shorter_19 : decode cX12_shorter 19 = .ok (.aload_n 0, 1) := by decide +kernel
theorem dX12_shorter_20 : decode cX12_shorter 20 = .ok (.iload_n 1, 1) := by decide +kernel
theorem dX12_shorter_21 : decode cX12_shorter 21 = .ok (.iconst 0, 1) := by decide +kernel
theorem dX12_shorter_22 : decode cX12_shorter 22 = .ok (.invokevirtual 535, 3) := by decide +kernel
theorem dX12_shorter_25 : decode cX12_shorter 25 = .ok (.aload_n 0, 1) := by decide +kernel
theorem dX12_shorter_26 : decode cX12_shorter 26 = .ok (.aload_n 0, 1) := by decide +kernel
theorem dX12_shorter_27 : decode cX12_shorter 27 = .ok (.getfield 228, 3) := by decide +kernel
theorem dX12_shorter_30 : decode cX12_shorter 30 = .ok (.iconst 0, 1) := by decide +kernel
theorem dX12_shorter_31 : decode cX12_shorter 31 = .ok (.iaload, 1) := by decide +kernel
theorem dX12_shorter_32 : decode cX12_shorter 32 = .ok (.aload_n 0, 1) := by decide +kernel
theorem dX12_shorter_33 : decode cX12_shorter 33 = .ok (.getfield 307, 3) := by decide +kernel
theorem dX12_shorter_36 : decode cX12_shorter 36 = .ok (.invokevirtual 538, 3) := by decide +kernel
theorem dX12_shorter_39 : decode cX12_shorter 39 = .ok (.aload_n 0, 1) := by decide +kernel
theorem dX12_shorter_40 : decode cX12_shorter 40 = .ok (.dup, 1) := by decide +kernel
theorem dX12_shorter_41 : decode cX12_shorter 41 = .ok (.getfield 307, 3) := by decide +kernel
theorem dX12_shorter_44 : decode cX12_shorter 44 = .ok (.iconst 1, 1) := by decide +kernel
theorem dX12_shorter_45 : decode cX12_shorter 45 = .ok (.iadd, 1) := by decide +kernel
theorem dX12_shorter_46 : decode cX12_shorter 46 = .ok (.putfield 307, 3) := by decide +kernel
theorem dX12_shorter_49 : decode cX12_shorter 49 = .ok (.aload_n 0, 1) := by decide +kernel
theorem dX12_shorter_50 : decode cX12_shorter 50 = .ok (.getfield 307, 3) := by decide +kernel
theorem dX12_shorter_53 : decode cX12_shorter 53 = .ok (.iconst 1, 1) := by decide +kernel
theorem dX12_shorter_54 : decode cX12_shorter 54 = .ok (.isub, 1) := by decide +kernel
theorem dX12_shorter_55 : decode cX12_shorter 55 = .ok (.ireturn, 1) := by decide +kernel
theorem dX12_same_0 : decode cX12_same 0 = .ok (.aload_n 0, 1) := by decide +kernel
theorem dX12_same_1 : decode cX12_same 1 = .ok (.iload_n 1, 1) := by decide +kernel
theorem dX12_same_2 : decode cX12_same 2 = .ok (.invokevirtual 337, 3) := by decide +kernel
theorem dX12_same_5 : decode cX12_same 5 = .ok (.ifCond .eq 11, 3) := by decide +kernel
theorem dX12_same_8 : decode cX12_same 8 = .ok (.aload_n 0, 1) := by decide +kernel
theorem dX12_same_9 : decode cX12_same 9 = .ok (.iload_n 2, 1) := by decide +kernel
theorem dX12_same_10 : decode cX12_same 10 = .ok (.invokevirtual 337, 3) := by decide +kernel
theorem dX12_same_13 : decode cX12_same 13 = .ok (.ifCond .ne 5, 3) := by decide +kernel
theorem dX12_same_16 : decode cX12_same 16 = .ok (.iconst (-1), 1) := by decide +kernel
theorem dX12_same_17 : decode cX12_same 17 = .ok (.ireturn, 1) := by decide +kernel
theorem dX12_same_18 : decode cX12_same 18 = .ok (.aload_n 0, 1) := by decide +kernel
theorem dX12_same_19 : decode cX12_same 19 = .ok (.iload_n 1, 1) := by decide +kernel
theorem dX12_same_20 : decode cX12_same 20 = .ok (.iconst 0, 1) := by decide +kernel
theorem dX12_same_21 : decode cX12_same 21 = .ok (.invokevirtual 535, 3) := by decide +kernel
theorem dX12_same_24 : decode cX12_same 24 = .ok (.aload_n 0, 1) := by decide +kernel
theorem dX12_same_25 : decode cX12_same 25 = .ok (.iload_n 2, 1) := by decide +kernel
theorem dX12_same_26 : decode cX12_same 26 = .ok (.iconst 1, 1) := by decide +kernel
theorem dX12_same_27 : decode cX12_same 27 = .ok (.invokevirtual 535, 3) := by decide +kernel
theorem dX12_same_30 : decode cX12_same 30 = .ok (.aload_n 0, 1) := by decide +kernel
theorem dX12_same_31 : decode cX12_same 31 = .ok (.getfield 225, 3) := by decide +kernel
theorem dX12_same_34 : decode cX12_same 34 = .ok (.bipush 81, 2) := by decide +kernel
theorem dX12_same_36 : decode cX12_same 36 = .ok (.bipush 40, 2) := by decide +kernel
theorem dX12_same_38 : decode cX12_same 38 = .ok (.iastore, 1) := by decide +kernel
theorem dX12_same_39 : decode cX12_same 39 = .ok (.iconst 0, 1) := by decide +kernel
theorem dX12_same_40 : decode cX12_same 40 = .ok (.istore_n 3, 1) := by decide +kernel
theorem dX12_same_41 : decode cX12_same 41 = .ok (.iload_n 3, 1) := by decide +kernel
theorem dX12_same_42 : decode cX12_same 42 = .ok (.iconst 2, 1) := by decide +kernel
theorem dX12_same_43 : decode cX12_same 43 = .ok (.if_icmp .ge 217, 3) := by decide +kernel
theorem dX12_same_46 : decode cX12_same 46 = .ok (.bipush 41, 2) := by decide +kernel
theorem dX12_same_48 : decode cX12_same 48 = .ok (.iload_n 3, 1) := by decide +kernel
theorem dX12_same_49 : decode cX12_same 49 = .ok (.imul, 1) := by decide +kernel
theorem dX12_same_50 : decode cX12_same 50 = .ok (.istore 4, 2) := by decide +kernel
theorem dX12_same_52 : decode cX12_same 52 = .ok (.aload_n 0, 1) := by decide +kernel
theorem dX12_same_53 : decode cX12_same 53 = .ok (.getfield 17, 3) := by decide +kernel
theorem dX12_same_56 : decode cX12_same 56 = .ok (.iload_n 3, 1) := by decide +kernel
theorem dX12_same_57 : decode cX12_same 57 = .ok (.ifCond .ne 7, 3) := by decide +kernel
theorem dX12_same_60 : decode cX12_same 60 = .ok (.iload_n 1, 1) := by decide +kernel
theorem dX12_same_61 : decode cX12_same 61 = .ok (.goto 4, 3) := by decide +kernel
theorem dX12_same_64 : decode cX12_same 64 = .ok (.iload_n 2, 1) := by decide +kernel
theorem dX12_same_65 : decode cX12_same 65 = .ok (.iaload, 1) := by decide +kernel
theorem dX12_same_66 : decode cX12_same 66 = .ok (.iconst 1, 1) := by decide +kernel
theorem dX12_same_67 : decode cX12_same 67 = .ok (.isub, 1) := by decide +kernel
theorem dX12_same_68 : decode cX12_same 68 = .ok (.istore 5, 2) := by decide +kernel
theorem dX12_same_70 : decode cX12_same 70 = .ok (.iload 5, 2) := by decide +kernel
theorem dX12_same_72 : decode cX12_same 72 = .ok (.ifCond .lt 182, 3) := by decide +kernel
theorem dX12_same_75 : decode cX12_same 75 = .ok (.iload 4, 2) := by decide +kernel
theorem dX12_same_77 : decode cX12_same 77 = .ok (.iload 5, 2) := by decide +kernel
theorem dX12_same_79 : decode cX12_same 79 = .ok (.iadd, 1) := by decide +kernel
theorem dX12_same_80 : decode cX12_same 80 = .ok (.istore 6, 2) := by decide +kernel
theorem dX12_same_82 : decode cX12_same 82 = .ok (.aload_n 0, 1) := by decide +kernel
theorem dX12_same_83 : decode cX12_same 83 = .ok (.getfield 228, 3) := by decide +kernel
theorem dX12_same_86 : decode cX12_same 86 = .ok (.iload 6, 2) := by decide +kernel
theorem dX12_same_88 : decode cX12_same 88 = .ok (.iaload, 1) := by decide +kernel
theorem dX12_same_89 : decode cX12_same 89 = .ok (.iload 6, 2) := by decide +kernel
theorem dX12_same_91 : decode cX12_same 91 = .ok (.if_icmp .eq 6, 3) := by decide +kernel
theorem dX12_same_94 : decode cX12_same 94 = .ok (.goto 154, 3) := by decide +kernel
theorem dX12_same_97 : decode cX12_same 97 = .ok (.aload_n 0, 1) := by decide +kernel
theorem dX12_same_98 : decode cX12_same 98 = .ok (.getfield 225, 3) := by decide +kernel
theorem dX12_same_101 : decode cX12_same 101 = .ok (.iload 6, 2) := by decide +kernel
theorem dX12_same_103 : decode cX12_same 103 = .ok (.iload 6, 2) := by decide +kernel
theorem dX12_same_105 : decode cX12_same 105 = .ok (.iastore, 1) := by decide +kernel
theorem dX12_same_106 : decode cX12_same 106 = .ok (.iconst 0, 1) := by decide +kernel
theorem dX12_same_107 : decode cX12_same 107 = .ok (.istore 7, 2) := by decide +kernel
theorem dX12_same_109 : decode cX12_same 109 = .ok (.iload 7, 2) := by decide +kernel
theorem dX12_same_111 : decode cX12_same 111 = .ok (.bipush 82, 2) := by decide +kernel
theorem dX12_same_113 : decode cX12_same 113 = .ok (.if_icmp .ge 135, 3) := by decide +kernel
theorem dX12_same_116 : decode cX12_same 116 = .ok (.aload_n 0, 1) := by decide +kernel
theorem dX12_same_117 : decode cX12_same 117 = .ok (.getfield 225, 3) := by decide +kernel
theorem dX12_same_120 : decode cX12_same 120 = .ok (.iload 6, 2) := by decide +kernel
theorem dX12_same_122 : decode cX12_same 122 = .ok (.iaload, 1) := by decide +kernel
theorem dX12_same_123 : decode cX12_same 123 = .ok (.iload 6, 2) := by decide +kernel
theorem dX12_same_125 : decode cX12_same 125 = .ok (.if_icmp .ne 123, 3) := by decide +kernel
theorem dX12_same_128 : decode cX12_same 128 = .ok (.iload 7, 2) := by decide +kernel
theorem dX12_same_130 : decode cX12_same 130 = .ok (.bipush 41, 2) := by decide +kernel
theorem dX12_same_132 : decode cX12_same 132 = .ok (.if_icmp .ge 34, 3) := by decide +kernel
theorem dX12_same_135 : decode cX12_same 135 = .ok (.iload 7, 2) := by decide +kernel
theorem dX12_same_137 : decode cX12_same 137 = .ok (.aload_n 0, 1) := by decide +kernel
theorem dX12_same_138 : decode cX12_same 138 = .ok (.getfield 17, 3) := by decide +kernel
theorem dX12_same_141 : decode cX12_same 141 = .ok (.iload_n 1, 1) := by decide +kernel
theorem dX12_same_142 : decode cX12_same 142 = .ok (.iaload, 1) := by decide +kernel
theorem dX12_same_143 : decode cX12_same 143 = .ok (.if_icmp .ge 19, 3) := by decide +kernel
theorem dX12_same_146 : decode cX12_same 146 = .ok (.iload_n 3, 1) := by decide +kernel
theorem dX12_same_147 : decode cX12_same 147 = .ok (.iconst 1, 1) := by decide +kernel
theorem dX12_same_148 : decode cX12_same 148 = .ok (.if_icmp .eq 10, 3) := by decide +kernel
theorem dX12_same_151 : decode cX12_same 151 = .ok (.iload 7, 2) := by decide +kernel
theorem dX12_same_153 : decode cX12_same 153 = .ok (.iload 5, 2) := by decide +kernel
theorem dX12_same_155 : decode cX12_same 155 = .ok (.if_icmp .le 7, 3) := by decide +kernel
theorem dX12_same_158 : decode cX12_same 158 = .ok (.iconst 1, 1) := by decide +kernel
theorem dX12_same_159 : decode cX12_same 159 = .ok (.goto 38, 3) := by decide +kernel
theorem dX12_same_162 : decode cX12_same 162 = .ok (.iconst 0, 1) := by decide +kernel
theorem dX12_same_163 : decode cX12_same 163 = .ok (.goto 34, 3) := by decide +kernel
theorem dX12_same_166 : decode cX12_same 166 = .ok (.iload_n 3, 1) := by decide +kernel
theorem dX12_same_167 : decode cX12_same 167 = .ok (.iconst 1, 1) := by decide +kernel
theorem dX12_same_168 : decode cX12_same 168 = .ok (.if_icmp .ne 28, 3) := by decide +kernel
theorem dX12_same_171 : decode cX12_same 171 = .ok (.iload 7, 2) := by decide +kernel
theorem dX12_same_173 : decode cX12_same 173 = .ok (.bipush 41, 2) := by decide +kernel
theorem dX12_same_175 : decode cX12_same 175 = .ok (.isub, 1) := by decide +kernel
theorem dX12_same_176 : decode cX12_same 176 = .ok (.aload_n 0, 1) := by decide +kernel
theorem dX12_same_177 : decode cX12_same 177 = .ok (.getfield 17, 3) := by decide +kernel
theorem dX12_same_180 : decode cX12_same 180 = .ok (.iload_n 2, 1) := by decide +kernel
theorem dX12_same_181 : decode cX12_same 181 = .ok (.iaload, 1) := by decide +kernel
theorem dX12_same_182 : decode cX12_same 182 = .ok (.if_icmp .ge 14, 3) := by decide +kernel
theorem dX12_same_185 : decode cX12_same 185 = .ok (.iload 7, 2) := by decide +kernel
theorem dX12_same_187 : decode cX12_same 187 = .ok (.iload 6, 2) := by decide +kernel
theorem dX12_same_189 : decode cX12_same 189 = .ok (.if_icmp .le 7, 3) := by decide +kernel
theorem dX12_same_192 : decode cX12_same 192 = .ok (.iconst 1, 1) := by decide +kernel
theorem dX12_same_193 : decode cX12_same 193 = .ok (.goto 4, 3) := by decide +kernel
theorem dX12_same_196 : decode cX12_same 196 = .ok (.iconst 0, 1) := by decide +kernel
theorem dX12_same_197 : decode cX12_same 197 = .ok (.istore 8, 2) := by decide +kernel
theorem dX12_same_199 : decode cX12_same 199 = .ok (.iload 8, 2) := by decide +kernel
theorem dX12_same_201 : decode cX12_same 201 = .ok (.ifCond .eq 41, 3) := by decide +kernel
theorem dX12_same_204 : decode cX12_same 204 = .ok (.aload_n 0, 1) := by decide +kernel
theorem dX12_same_205 : decode cX12_same 205 = .ok (.getfield 228, 3) := by decide +kernel
theorem dX12_same_208 : decode cX12_same 208 = .ok (.iload 7, 2) := by decide +kernel
theorem dX12_same_210 : decode cX12_same 210 = .ok (.iaload, 1) := by decide +kernel
theorem dX12_same_211 : decode cX12_same 211 = .ok (.iload 7, 2) := by decide +kernel
theorem dX12_same_213 : decode cX12_same 213 = .ok (.if_icmp .ne 29, 3) := by decide +kernel
theorem dX12_same_216 : decode cX12_same 216 = .ok (.aload_n 0, 1) := by decide +kernel
theorem dX12_same_217 : decode cX12_same 217 = .ok (.iload 6, 2) := by decide +kernel
theorem dX12_same_219 : decode cX12_same 219 = .ok (.iload 7, 2) := by decide +kernel
theorem dX12_same_221 : decode cX12_same 221 = .ok (.iconst 1, 1) := by decide +kernel
theorem dX12_same_222 : decode cX12_same 222 = .ok (.invokevirtual 520, 3) := by decide +kernel
theorem dX12_same_225 : decode cX12_same 225 = .ok (.ifCond .eq 17, 3) := by decide +kernel
theorem dX12_same_228 : decode cX12_same 228 = .ok (.aload_n 0, 1) := by decide +kernel
theorem dX12_same_229 : decode cX12_same 229 = .ok (.getfield 225, 3) := by decide +kernel
theorem dX12_same_232 : decode cX12_same 232 = .ok (.iload 6, 2) := by decide +kernel
theorem dX12_same_234 : decode cX12_same 234 = .ok (.aload_n 0, 1) := by decide +kernel
theorem dX12_same_235 : decode cX12_same 235 = .ok (.getfield 225, 3) := by decide +kernel
theorem dX12_same_238 : decode cX12_same 238 = .ok (.iload 7, 2) := by decide +kernel
theorem dX12_same_240 : decode cX12_same 240 = .ok (.iaload, 1) := by decide +kernel
theorem dX12_same_241 : decode cX12_same 241 = .ok (.iastore, 1) := by decide +kernel
theorem dX12_same_242 : decode cX12_same 242 = .ok (.iinc 7 1, 3) := by decide +kernel
theorem dX12_same_245 : decode cX12_same 245 = .ok (.goto (-136), 3) := by decide +kernel
theorem dX12_same_248 : decode cX12_same 248 = .ok (.iinc 5 (-1), 3) := by decide +kernel
theorem dX12_same_251 : decode cX12_same 251 = .ok (.goto (-181), 3) := by decide +kernel
theorem dX12_same_254 : decode cX12_same 254 = .ok (.iinc 3 1, 3) := by decide +kernel
theorem dX12_same_257 : decode cX12_same 257 = .ok (.goto (-216), 3) := by decide +kernel
theorem dX12_same_260 : decode cX12_same 260 = .ok (.aload_n 0, 1) := by decide +kernel
theorem dX12_same_261 : decode cX12_same 261 = .ok (.getfield 225, 3) := by decide +kernel
theorem dX12_same_264 : decode cX12_same 264 = .ok (.aload_n 0, 1) := by decide +kernel
theorem dX12_same_265 : decode cX12_same 265 = .ok (.getfield 228, 3) := by decide +kernel
theorem dX12_same_268 : decode cX12_same 268 = .ok (.iconst 0, 1) := by decide +kernel
theorem dX12_same_269 : decode cX12_same 269 = .ok (.iaload, 1) := by decide +kernel
theorem dX12_same_270 : decode cX12_same 270 = .ok (.iaload, 1) := by decide +kernel
theorem dX12_same_271 : decode cX12_same 271 = .ok (.aload_n 0, 1) := by decide +kernel
theorem dX12_same_272 : decode cX12_same 272 = .ok (.getfield 225, 3) := by decide +kernel
theorem dX12_same_275 : decode cX12_same 275 = .ok (.aload_n 0, 1) := by decide +kernel
theorem dX12_same_276 : decode cX12_same 276 = .ok (.getfield 228, 3) := by decide +kernel
theorem dX12_same_279 : decode cX12_same 279 = .ok (.bipush 41, 2) := by decide +kernel
theorem dX12_same_281 : decode cX12_same 281 = .ok (.iaload, 1) := by decide +kernel
theorem dX12_same_282 : decode cX12_same 282 = .ok (.iaload, 1) := by decide +kernel
theorem dX12_same_283 : decode cX12_same 283 = .ok (.if_icmp .ne 7, 3) := by decide +kernel
theorem dX12_same_286 : decode cX12_same 286 = .ok (.iconst 1, 1) := by decide +kernel
theorem dX12_same_287 : decode cX12_same 287 = .ok (.goto 4, 3) := by decide +kernel
theorem dX12_same_290 : decode cX12_same 290 = .ok (.iconst 0, 1) := by decide +kernel
theorem dX12_same_291 : decode cX12_same 291 = .ok (.ireturn, 1) := by decide +kernel
theorem dX12_signs_0 : decode cX12_signs 0 = .ok (.aload_n 0, 1) := by decide +kernel
theorem dX12_signs_1 : decode cX12_signs 1 = .ok (.getfield 240, 3) := by decide +kernel
theorem dX12_signs_4 : decode cX12_signs 4 = .ok (.aload_n 0, 1) := by decide +kernel
theorem dX12_signs_5 : decode cX12_signs 5 = .ok (.getfield 541, 3) := by decide +kernel
theorem dX12_signs_8 : decode cX12_signs 8 = .ok (.iload_n 1, 1) := by decide +kernel
theorem dX12_signs_9 : decode cX12_signs 9 = .ok (.i2b, 1) := by decide +kernel
theorem dX12_signs_10 : decode cX12_signs 10 = .ok (.bastore, 1) := by decide +kernel
theorem dX12_signs_11 : decode cX12_signs 11 = .ok (.aload_n 0, 1) := by decide +kernel
theorem dX12_signs_12 : decode cX12_signs 12 = .ok (.dup, 1) := by decide +kernel
theorem dX12_signs_13 : decode cX12_signs 13 = .ok (.getfield 541, 3) := by decide +kernel
theorem dX12_signs_16 : decode cX12_signs 16 = .ok (.iconst 1, 1) := by decide +kernel
theorem dX12_signs_17 : decode cX12_signs 17 = .ok (.iadd, 1) := by decide +kernel
theorem dX12_signs_18 : decode cX12_signs 18 = .ok (.putfield 541, 3) := by decide +kernel
theorem dX12_signs_21 : decode cX12_signs 21 = .ok (.aload_n 0, 1) := by decide +kernel
theorem dX12_signs_22 : decode cX12_signs 22 = .ok (.iconst 0, 1) := by decide +kernel
theorem dX12_signs_23 : decode cX12_signs 23 = .ok (.putfield 544, 3) := by decide +kernel
theorem dX12_signs_26 : decode cX12_signs 26 = .ok (.return_, 1) := by decide +kernel
theorem dX12_spells_0 : decode cX12_spells 0 = .ok (.aload_n 0, 1) := by decide +kernel
theorem dX12_spells_1 : decode cX12_spells 1 = .ok (.getfield 544, 3) := by decide +kernel
theorem dX12_spells_4 : decode cX12_spells 4 = .ok (.ifCond .eq 9, 3) := by decide +kernel
theorem dX12_spells_7 : decode cX12_spells 7 = .ok (.aload_n 0, 1) := by decide +kernel
theorem dX12_spells_8 : decode cX12_spells 8 = .ok (.bipush 32, 2) := by decide +kernel
theorem dX12_spells_10 : decode cX12_spells 10 = .ok (.invokevirtual 547, 3) := by decide +kernel
theorem dX12_spells_13 : decode cX12_spells 13 = .ok (.bipush 48, 2) := by decide +kernel
theorem dX12_spells_15 : decode cX12_spells 15 = .ok (.istore_n 3, 1) := by decide +kernel
theorem dX12_spells_16 : decode cX12_spells 16 = .ok (.iload_n 3, 1) := by decide +kernel
theorem dX12_spells_17 : decode cX12_spells 17 = .ok (.ifCond .lt 44, 3) := by decide +kernel
theorem dX12_spells_20 : decode cX12_spells 20 = .ok (.lload_n 1, 1) := by decide +kernel
theorem dX12_spells_21 : decode cX12_spells 21 = .ok (.iload_n 3, 1) := by decide +kernel
theorem dX12_spells_22 : decode cX12_spells 22 = .ok (.lshr, 1) := by decide +kernel
theorem dX12_spells_23 : decode cX12_spells 23 = .ok (.lconst 0, 1) := by decide +kernel
theorem dX12_spells_24 : decode cX12_spells 24 = .ok (.lcmp, 1) := by decide +kernel
theorem dX12_spells_25 : decode cX12_spells 25 = .ok (.ifCond .ne 6, 3) := by decide +kernel
theorem dX12_spells_28 : decode cX12_spells 28 = .ok (.goto 27, 3) := by decide +kernel
theorem dX12_spells_31 : decode cX12_spells 31 = .ok (.aload_n 0, 1) := by decide +kernel
theorem dX12_spells_32 : decode cX12_spells 32 = .ok (.getfield 240, 3) := by decide +kernel
theorem dX12_spells_35 : decode cX12_spells 35 = .ok (.aload_n 0, 1) := by decide +kernel
theorem dX12_spells_36 : decode cX12_spells 36 = .ok (.getfield 541, 3) := by decide +kernel
theorem dX12_spells_39 : decode cX12_spells 39 = .ok (.lload_n 1, 1) := by decide +kernel
theorem dX12_spells_40 : decode cX12_spells 40 = .ok (.iload_n 3, 1) := by decide +kernel
theorem dX12_spells_41 : decode cX12_spells 41 = .ok (.lshr, 1) := by decide +kernel
theorem dX12_spells_42 : decode cX12_spells 42 = .ok (.l2i, 1) := by decide +kernel
theorem dX12_spells_43 : decode cX12_spells 43 = .ok (.i2b, 1) := by decide +kernel
theorem dX12_spells_44 : decode cX12_spells 44 = .ok (.bastore, 1) := by decide +kernel
theorem dX12_spells_45 : decode cX12_spells 45 = .ok (.aload_n 0, 1) := by decide +kernel
theorem dX12_spells_46 : decode cX12_spells 46 = .ok (.dup, 1) := by decide +kernel
theorem dX12_spells_47 : decode cX12_spells 47 = .ok (.getfield 541, 3) := by decide +kernel
theorem dX12_spells_50 : decode cX12_spells 50 = .ok (.iconst 1, 1) := by decide +kernel
theorem dX12_spells_51 : decode cX12_spells 51 = .ok (.iadd, 1) := by decide +kernel
theorem dX12_spells_52 : decode cX12_spells 52 = .ok (.putfield 541, 3) := by decide +kernel
theorem dX12_spells_55 : decode cX12_spells 55 = .ok (.iinc 3 (-8), 3) := by decide +kernel
theorem dX12_spells_58 : decode cX12_spells 58 = .ok (.goto (-42), 3) := by decide +kernel
theorem dX12_spells_61 : decode cX12_spells 61 = .ok (.aload_n 0, 1) := by decide +kernel
theorem dX12_spells_62 : decode cX12_spells 62 = .ok (.iconst 1, 1) := by decide +kernel
theorem dX12_spells_63 : decode cX12_spells 63 = .ok (.putfield 544, 3) := by decide +kernel
theorem dX12_spells_66 : decode cX12_spells 66 = .ok (.return_, 1) := by decide +kernel
theorem dX12_digits_0 : decode cX12_digits 0 = .ok (.aload_n 0, 1) := by decide +kernel
theorem dX12_digits_1 : decode cX12_digits 1 = .ok (.getfield 544, 3) := by decide +kernel
theorem dX12_digits_4 : decode cX12_digits 4 = .ok (.ifCond .eq 9, 3) := by decide +kernel
theorem dX12_digits_7 : decode cX12_digits 7 = .ok (.aload_n 0, 1) := by decide +kernel
theorem dX12_digits_8 : decode cX12_digits 8 = .ok (.bipush 32, 2) := by decide +kernel
theorem dX12_digits_10 : decode cX12_digits 10 = .ok (.invokevirtual 547, 3) := by decide +kernel
theorem dX12_digits_13 : decode cX12_digits 13 = .ok (.sipush 10000, 3) := by decide +kernel
theorem dX12_digits_16 : decode cX12_digits 16 = .ok (.istore_n 2, 1) := by decide +kernel
theorem dX12_digits_17 : decode cX12_digits 17 = .ok (.iload_n 2, 1) := by decide +kernel
theorem dX12_digits_18 : decode cX12_digits 18 = .ok (.ifCond .le 53, 3) := by decide +kernel
theorem dX12_digits_21 : decode cX12_digits 21 = .ok (.iload_n 1, 1) := by decide +kernel
theorem dX12_digits_22 : decode cX12_digits 22 = .ok (.iload_n 2, 1) := by decide +kernel
theorem dX12_digits_23 : decode cX12_digits 23 = .ok (.if_icmp .ge 11, 3) := by decide +kernel
theorem dX12_digits_26 : decode cX12_digits 26 = .ok (.iload_n 2, 1) := by decide +kernel
theorem dX12_digits_27 : decode cX12_digits 27 = .ok (.iconst 1, 1) := by decide +kernel
theorem dX12_digits_28 : decode cX12_digits 28 = .ok (.if_icmp .le 6, 3) := by decide +kernel
theorem dX12_digits_31 : decode cX12_digits 31 = .ok (.goto 32, 3) := by decide +kernel
theorem dX12_digits_34 : decode cX12_digits 34 = .ok (.aload_n 0, 1) := by decide +kernel
theorem dX12_digits_35 : decode cX12_digits 35 = .ok (.getfield 240, 3) := by decide +kernel
theorem dX12_digits_38 : decode cX12_digits 38 = .ok (.aload_n 0, 1) := by decide +kernel
theorem dX12_digits_39 : decode cX12_digits 39 = .ok (.getfield 541, 3) := by decide +kernel
theorem dX12_digits_42 : decode cX12_digits 42 = .ok (.bipush 48, 2) := by decide +kernel
theorem dX12_digits_44 : decode cX12_digits 44 = .ok (.iload_n 1, 1) := by decide +kernel
theorem dX12_digits_45 : decode cX12_digits 45 = .ok (.iload_n 2, 1) := by decide +kernel
theorem dX12_digits_46 : decode cX12_digits 46 = .ok (.idiv, 1) := by decide +kernel
theorem dX12_digits_47 : decode cX12_digits 47 = .ok (.bipush 10, 2) := by decide +kernel
theorem dX12_digits_49 : decode cX12_digits 49 = .ok (.irem, 1) := by decide +kernel
theorem dX12_digits_50 : decode cX12_digits 50 = .ok (.iadd, 1) := by decide +kernel
theorem dX12_digits_51 : decode cX12_digits 51 = .ok (.i2b, 1) := by decide +kernel
theorem dX12_digits_52 : decode cX12_digits 52 = .ok (.bastore, 1) := by decide +kernel
theorem dX12_digits_53 : decode cX12_digits 53 = .ok (.aload_n 0, 1) := by decide +kernel
theorem dX12_digits_54 : decode cX12_digits 54 = .ok (.dup, 1) := by decide +kernel
theorem dX12_digits_55 : decode cX12_digits 55 = .ok (.getfield 541, 3) := by decide +kernel
theorem dX12_digits_58 : decode cX12_digits 58 = .ok (.iconst 1, 1) := by decide +kernel
theorem dX12_digits_59 : decode cX12_digits 59 = .ok (.iadd, 1) := by decide +kernel
theorem dX12_digits_60 : decode cX12_digits 60 = .ok (.putfield 541, 3) := by decide +kernel
theorem dX12_digits_63 : decode cX12_digits 63 = .ok (.iload_n 2, 1) := by decide +kernel
theorem dX12_digits_64 : decode cX12_digits 64 = .ok (.bipush 10, 2) := by decide +kernel
theorem dX12_digits_66 : decode cX12_digits 66 = .ok (.idiv, 1) := by decide +kernel
theorem dX12_digits_67 : decode cX12_digits 67 = .ok (.istore_n 2, 1) := by decide +kernel
theorem dX12_digits_68 : decode cX12_digits 68 = .ok (.goto (-51), 3) := by decide +kernel
theorem dX12_digits_71 : decode cX12_digits 71 = .ok (.aload_n 0, 1) := by decide +kernel
theorem dX12_digits_72 : decode cX12_digits 72 = .ok (.iconst 1, 1) := by decide +kernel
theorem dX12_digits_73 : decode cX12_digits 73 = .ok (.putfield 544, 3) := by decide +kernel
theorem dX12_digits_76 : decode cX12_digits 76 = .ok (.return_, 1) := by decide +kernel
theorem dX12_sums_0 : decode cX12_sums 0 = .ok (.bipush 40, 2) := by decide +kernel
theorem dX12_sums_2 : decode cX12_sums 2 = .ok (.iload_n 1, 1) := by decide +kernel
theorem dX12_sums_3 : decode cX12_sums 3 = .ok (.bipush 40, 2) := by decide +kernel
theorem dX12_sums_5 : decode cX12_sums 5 = .ok (.idiv, 1) := by decide +kernel
theorem dX12_sums_6 : decode cX12_sums 6 = .ok (.imul, 1) := by decide +kernel
theorem dX12_sums_7 : decode cX12_sums 7 = .ok (.iload_n 2, 1) := by decide +kernel
theorem dX12_sums_8 : decode cX12_sums 8 = .ok (.iadd, 1) := by decide +kernel
theorem dX12_sums_9 : decode cX12_sums 9 = .ok (.istore 4, 2) := by decide +kernel
theorem dX12_sums_11 : decode cX12_sums 11 = .ok (.iload 4, 2) := by decide +kernel
theorem dX12_sums_13 : decode cX12_sums 13 = .ok (.bipush 40, 2) := by decide +kernel
theorem dX12_sums_15 : decode cX12_sums 15 = .ok (.iload_n 1, 1) := by decide +kernel
theorem dX12_sums_16 : decode cX12_sums 16 = .ok (.bipush 40, 2) := by decide +kernel
theorem dX12_sums_18 : decode cX12_sums 18 = .ok (.idiv, 1) := by decide +kernel
theorem dX12_sums_19 : decode cX12_sums 19 = .ok (.imul, 1) := by decide +kernel
theorem dX12_sums_20 : decode cX12_sums 20 = .ok (.iload_n 3, 1) := by decide +kernel
theorem dX12_sums_21 : decode cX12_sums 21 = .ok (.iadd, 1) := by decide +kernel
theorem dX12_sums_22 : decode cX12_sums 22 = .ok (.if_icmp .ge 91, 3) := by decide +kernel
theorem dX12_sums_25 : decode cX12_sums 25 = .ok (.aload_n 0, 1) := by decide +kernel
theorem dX12_sums_26 : decode cX12_sums 26 = .ok (.getfield 53, 3) := by decide +kernel
theorem dX12_sums_29 : decode cX12_sums 29 = .ok (.iload 4, 2) := by decide +kernel
theorem dX12_sums_31 : decode cX12_sums 31 = .ok (.iaload, 1) := by decide +kernel
theorem dX12_sums_32 : decode cX12_sums 32 = .ok (.ifCond .eq 14, 3) := by decide +kernel
theorem dX12_sums_35 : decode cX12_sums 35 = .ok (.aload_n 0, 1) := by decide +kernel
theorem dX12_sums_36 : decode cX12_sums 36 = .ok (.aload_n 0, 1) := by decide +kernel
theorem dX12_sums_37 : decode cX12_sums 37 = .ok (.getfield 53, 3) := by decide +kernel
theorem dX12_sums_40 : decode cX12_sums 40 = .ok (.iload 4, 2) := by decide +kernel
theorem dX12_sums_42 : decode cX12_sums 42 = .ok (.iaload, 1) := by decide +kernel
theorem dX12_sums_43 : decode cX12_sums 43 = .ok (.invokevirtual 547, 3) := by decide +kernel
theorem dX12_sums_46 : decode cX12_sums 46 = .ok (.aload_n 0, 1) := by decide +kernel
theorem dX12_sums_47 : decode cX12_sums 47 = .ok (.getfield 56, 3) := by decide +kernel
theorem dX12_sums_50 : decode cX12_sums 50 = .ok (.iload 4, 2) := by decide +kernel
theorem dX12_sums_52 : decode cX12_sums 52 = .ok (.iaload, 1) := by decide +kernel
theorem dX12_sums_53 : decode cX12_sums 53 = .ok (.ifCond .ge 17, 3) := by decide +kernel
theorem dX12_sums_56 : decode cX12_sums 56 = .ok (.aload_n 0, 1) := by decide +kernel
theorem dX12_sums_57 : decode cX12_sums 57 = .ok (.aload_n 0, 1) := by decide +kernel
theorem dX12_sums_58 : decode cX12_sums 58 = .ok (.getfield 59, 3) := by decide +kernel
theorem dX12_sums_61 : decode cX12_sums 61 = .ok (.iload 4, 2) := by decide +kernel
theorem dX12_sums_63 : decode cX12_sums 63 = .ok (.iaload, 1) := by decide +kernel
theorem dX12_sums_64 : decode cX12_sums 64 = .ok (.invokevirtual 550, 3) := by decide +kernel
theorem dX12_sums_67 : decode cX12_sums 67 = .ok (.goto 40, 3) := by decide +kernel
theorem dX12_sums_70 : decode cX12_sums 70 = .ok (.aload_n 0, 1) := by decide +kernel
theorem dX12_sums_71 : decode cX12_sums 71 = .ok (.aload_n 0, 1) := by decide +kernel
theorem dX12_sums_72 : decode cX12_sums 72 = .ok (.getfield 56, 3) := by decide +kernel
theorem dX12_sums_75 : decode cX12_sums 75 = .ok (.iload 4, 2) := by decide +kernel
theorem dX12_sums_77 : decode cX12_sums 77 = .ok (.iaload, 1) := by decide +kernel
theorem dX12_sums_78 : decode cX12_sums 78 = .ok (.bipush 6, 2) := by decide +kernel
theorem dX12_sums_80 : decode cX12_sums 80 = .ok (.if_icmp .ne 9, 3) := by decide +kernel
theorem dX12_sums_83 : decode cX12_sums 83 = .ok (.ldc2_w 299, 3) := by decide +kernel
theorem dX12_sums_86 : decode cX12_sums 86 = .ok (.goto 18, 3) := by decide +kernel
theorem dX12_sums_89 : decode cX12_sums 89 = .ok (.ldc2_w 553, 3) := by decide +kernel
theorem dX12_sums_92 : decode cX12_sums 92 = .ok (.bipush 48, 2) := by decide +kernel
theorem dX12_sums_94 : decode cX12_sums 94 = .ok (.aload_n 0, 1) := by decide +kernel
theorem dX12_sums_95 : decode cX12_sums 95 = .ok (.getfield 56, 3) := by decide +kernel
theorem dX12_sums_98 : decode cX12_sums 98 = .ok (.iload 4, 2) := by decide +kernel
theorem dX12_sums_100 : decode cX12_sums 100 = .ok (.iaload, 1) := by decide +kernel
theorem dX12_sums_101 : decode cX12_sums 101 = .ok (.iadd, 1) := by decide +kernel
theorem dX12_sums_102 : decode cX12_sums 102 = .ok (.i2l, 1) := by decide +kernel
theorem dX12_sums_103 : decode cX12_sums 103 = .ok (.lor, 1) := by decide +kernel
theorem dX12_sums_104 : decode cX12_sums 104 = .ok (.invokevirtual 555, 3) := by decide +kernel
theorem dX12_sums_107 : decode cX12_sums 107 = .ok (.iinc 4 1, 3) := by decide +kernel
theorem dX12_sums_110 : decode cX12_sums 110 = .ok (.goto (-99), 3) := by decide +kernel
theorem dX12_sums_113 : decode cX12_sums 113 = .ok (.return_, 1) := by decide +kernel
theorem dX12_tells_0 : decode cX12_tells 0 = .ok (.aload_n 0, 1) := by decide +kernel
theorem dX12_tells_1 : decode cX12_tells 1 = .ok (.aload_n 0, 1) := by decide +kernel
theorem dX12_tells_2 : decode cX12_tells 2 = .ok (.getfield 90, 3) := by decide +kernel
theorem dX12_tells_5 : decode cX12_tells 5 = .ok (.aload_n 0, 1) := by decide +kernel
theorem dX12_tells_6 : decode cX12_tells 6 = .ok (.getfield 20, 3) := by decide +kernel
theorem dX12_tells_9 : decode cX12_tells 9 = .ok (.iload_n 1, 1) := by decide +kernel
theorem dX12_tells_10 : decode cX12_tells 10 = .ok (.iaload, 1) := by decide +kernel
theorem dX12_tells_11 : decode cX12_tells 11 = .ok (.laload, 1) := by decide +kernel
theorem dX12_tells_12 : decode cX12_tells 12 = .ok (.invokevirtual 555, 3) := by decide +kernel
theorem dX12_tells_15 : decode cX12_tells 15 = .ok (.aload_n 0, 1) := by decide +kernel
theorem dX12_tells_16 : decode cX12_tells 16 = .ok (.getfield 23, 3) := by decide +kernel
theorem dX12_tells_19 : decode cX12_tells 19 = .ok (.iload_n 1, 1) := by decide +kernel
theorem dX12_tells_20 : decode cX12_tells 20 = .ok (.iaload, 1) := by decide +kernel
theorem dX12_tells_21 : decode cX12_tells 21 = .ok (.ifCond .lt 13, 3) := by decide +kernel
theorem dX12_tells_24 : decode cX12_tells 24 = .ok (.aload_n 0, 1) := by decide +kernel
theorem dX12_tells_25 : decode cX12_tells 25 = .ok (.aload_n 0, 1) := by decide +kernel
theorem dX12_tells_26 : decode cX12_tells 26 = .ok (.getfield 23, 3) := by decide +kernel
theorem dX12_tells_29 : decode cX12_tells 29 = .ok (.iload_n 1, 1) := by decide +kernel
theorem dX12_tells_30 : decode cX12_tells 30 = .ok (.iaload, 1) := by decide +kernel
theorem dX12_tells_31 : decode cX12_tells 31 = .ok (.invokevirtual 550, 3) := by decide +kernel
theorem dX12_tells_34 : decode cX12_tells 34 = .ok (.aload_n 0, 1) := by decide +kernel
theorem dX12_tells_35 : decode cX12_tells 35 = .ok (.getfield 20, 3) := by decide +kernel
theorem dX12_tells_38 : decode cX12_tells 38 = .ok (.iload_n 1, 1) := by decide +kernel
theorem dX12_tells_39 : decode cX12_tells 39 = .ok (.iaload, 1) := by decide +kernel
theorem dX12_tells_40 : decode cX12_tells 40 = .ok (.bipush 6, 2) := by decide +kernel
theorem dX12_tells_42 : decode cX12_tells 42 = .ok (.if_icmp .eq 25, 3) := by decide +kernel
theorem dX12_tells_45 : decode cX12_tells 45 = .ok (.aload_n 0, 1) := by decide +kernel
theorem dX12_tells_46 : decode cX12_tells 46 = .ok (.getfield 20, 3) := by decide +kernel
theorem dX12_tells_49 : decode cX12_tells 49 = .ok (.iload_n 1, 1) := by decide +kernel
theorem dX12_tells_50 : decode cX12_tells 50 = .ok (.iaload, 1) := by decide +kernel
theorem dX12_tells_51 : decode cX12_tells 51 = .ok (.bipush 7, 2) := by decide +kernel
theorem dX12_tells_53 : decode cX12_tells 53 = .ok (.if_icmp .eq 14, 3) := by decide +kernel
theorem dX12_tells_56 : decode cX12_tells 56 = .ok (.aload_n 0, 1) := by decide +kernel
theorem dX12_tells_57 : decode cX12_tells 57 = .ok (.getfield 20, 3) := by decide +kernel
theorem dX12_tells_60 : decode cX12_tells 60 = .ok (.iload_n 1, 1) := by decide +kernel
theorem dX12_tells_61 : decode cX12_tells 61 = .ok (.iaload, 1) := by decide +kernel
theorem dX12_tells_62 : decode cX12_tells 62 = .ok (.bipush 8, 2) := by decide +kernel
theorem dX12_tells_64 : decode cX12_tells 64 = .ok (.if_icmp .ne 100, 3) := by decide +kernel
theorem dX12_tells_67 : decode cX12_tells 67 = .ok (.aload_n 0, 1) := by decide +kernel
theorem dX12_tells_68 : decode cX12_tells 68 = .ok (.iload_n 1, 1) := by decide +kernel
theorem dX12_tells_69 : decode cX12_tells 69 = .ok (.aload_n 0, 1) := by decide +kernel
theorem dX12_tells_70 : decode cX12_tells 70 = .ok (.getfield 38, 3) := by decide +kernel
theorem dX12_tells_73 : decode cX12_tells 73 = .ok (.iload_n 1, 1) := by decide +kernel
theorem dX12_tells_74 : decode cX12_tells 74 = .ok (.iaload, 1) := by decide +kernel
theorem dX12_tells_75 : decode cX12_tells 75 = .ok (.aload_n 0, 1) := by decide +kernel
theorem dX12_tells_76 : decode cX12_tells 76 = .ok (.getfield 41, 3) := by decide +kernel
theorem dX12_tells_79 : decode cX12_tells 79 = .ok (.iload_n 1, 1) := by decide +kernel
theorem dX12_tells_80 : decode cX12_tells 80 = .ok (.iaload, 1) := by decide +kernel
theorem dX12_tells_81 : decode cX12_tells 81 = .ok (.invokevirtual 558, 3) := by decide +kernel
theorem dX12_tells_84 : decode cX12_tells 84 = .ok (.aload_n 0, 1) := by decide +kernel
theorem dX12_tells_85 : decode cX12_tells 85 = .ok (.getfield 47, 3) := by decide +kernel
theorem dX12_tells_88 : decode cX12_tells 88 = .ok (.iload_n 1, 1) := by decide +kernel
theorem dX12_tells_89 : decode cX12_tells 89 = .ok (.iaload, 1) := by decide +kernel
theorem dX12_tells_90 : decode cX12_tells 90 = .ok (.iconst 2, 1) := by decide +kernel
theorem dX12_tells_91 : decode cX12_tells 91 = .ok (.if_icmp .ge 9, 3) := by decide +kernel
theorem dX12_tells_94 : decode cX12_tells 94 = .ok (.aload_n 0, 1) := by decide +kernel
theorem dX12_tells_95 : decode cX12_tells 95 = .ok (.bipush 60, 2) := by decide +kernel
theorem dX12_tells_97 : decode cX12_tells 97 = .ok (.invokevirtual 547, 3) := by decide +kernel
theorem dX12_tells_100 : decode cX12_tells 100 = .ok (.aload_n 0, 1) := by decide +kernel
theorem dX12_tells_101 : decode cX12_tells 101 = .ok (.getfield 47, 3) := by decide +kernel
theorem dX12_tells_104 : decode cX12_tells 104 = .ok (.iload_n 1, 1) := by decide +kernel
theorem dX12_tells_105 : decode cX12_tells 105 = .ok (.iaload, 1) := by decide +kernel
theorem dX12_tells_106 : decode cX12_tells 106 = .ok (.iconst 2, 1) := by decide +kernel
theorem dX12_tells_107 : decode cX12_tells 107 = .ok (.if_icmp .le 9, 3) := by decide +kernel
theorem dX12_tells_110 : decode cX12_tells 110 = .ok (.aload_n 0, 1) := by decide +kernel
theorem dX12_tells_111 : decode cX12_tells 111 = .ok (.bipush 62, 2) := by decide +kernel
theorem dX12_tells_113 : decode cX12_tells 113 = .ok (.invokevirtual 547, 3) := by decide +kernel
theorem dX12_tells_116 : decode cX12_tells 116 = .ok (.aload_n 0, 1) := by decide +kernel
theorem dX12_tells_117 : decode cX12_tells 117 = .ok (.getfield 47, 3) := by decide +kernel
theorem dX12_tells_120 : decode cX12_tells 120 = .ok (.iload_n 1, 1) := by decide +kernel
theorem dX12_tells_121 : decode cX12_tells 121 = .ok (.iaload, 1) := by decide +kernel
theorem dX12_tells_122 : decode cX12_tells 122 = .ok (.ifCond .le 19, 3) := by decide +kernel
theorem dX12_tells_125 : decode cX12_tells 125 = .ok (.aload_n 0, 1) := by decide +kernel
theorem dX12_tells_126 : decode cX12_tells 126 = .ok (.getfield 47, 3) := by decide +kernel
theorem dX12_tells_129 : decode cX12_tells 129 = .ok (.iload_n 1, 1) := by decide +kernel
theorem dX12_tells_130 : decode cX12_tells 130 = .ok (.iaload, 1) := by decide +kernel
theorem dX12_tells_131 : decode cX12_tells 131 = .ok (.iconst 4, 1) := by decide +kernel
theorem dX12_tells_132 : decode cX12_tells 132 = .ok (.if_icmp .ge 9, 3) := by decide +kernel
theorem dX12_tells_135 : decode cX12_tells 135 = .ok (.aload_n 0, 1) := by decide +kernel
theorem dX12_tells_136 : decode cX12_tells 136 = .ok (.bipush 61, 2) := by decide +kernel
theorem dX12_tells_138 : decode cX12_tells 138 = .ok (.invokevirtual 547, 3) := by decide +kernel
theorem dX12_tells_141 : decode cX12_tells 141 = .ok (.aload_n 0, 1) := by decide +kernel
theorem dX12_tells_142 : decode cX12_tells 142 = .ok (.iload_n 1, 1) := by decide +kernel
theorem dX12_tells_143 : decode cX12_tells 143 = .ok (.aload_n 0, 1) := by decide +kernel
theorem dX12_tells_144 : decode cX12_tells 144 = .ok (.getfield 41, 3) := by decide +kernel
theorem dX12_tells_147 : decode cX12_tells 147 = .ok (.iload_n 1, 1) := by decide +kernel
theorem dX12_tells_148 : decode cX12_tells 148 = .ok (.iaload, 1) := by decide +kernel
theorem dX12_tells_149 : decode cX12_tells 149 = .ok (.aload_n 0, 1) := by decide +kernel
theorem dX12_tells_150 : decode cX12_tells 150 = .ok (.getfield 44, 3) := by decide +kernel
theorem dX12_tells_153 : decode cX12_tells 153 = .ok (.iload_n 1, 1) := by decide +kernel
theorem dX12_tells_154 : decode cX12_tells 154 = .ok (.iaload, 1) := by decide +kernel
theorem dX12_tells_155 : decode cX12_tells 155 = .ok (.invokevirtual 558, 3) := by decide +kernel
theorem dX12_tells_158 : decode cX12_tells 158 = .ok (.aload_n 0, 1) := by decide +kernel
theorem dX12_tells_159 : decode cX12_tells 159 = .ok (.bipush 58, 2) := by decide +kernel
theorem dX12_tells_161 : decode cX12_tells 161 = .ok (.invokevirtual 547, 3) := by decide +kernel
theorem dX12_tells_164 : decode cX12_tells 164 = .ok (.aload_n 0, 1) := by decide +kernel
theorem dX12_tells_165 : decode cX12_tells 165 = .ok (.getfield 20, 3) := by decide +kernel
theorem dX12_tells_168 : decode cX12_tells 168 = .ok (.iload_n 1, 1) := by decide +kernel
theorem dX12_tells_169 : decode cX12_tells 169 = .ok (.iaload, 1) := by decide +kernel
theorem dX12_tells_170 : decode cX12_tells 170 = .ok (.bipush 9, 2) := by decide +kernel
theorem dX12_tells_172 : decode cX12_tells 172 = .ok (.if_icmp .ne 26, 3) := by decide +kernel
theorem dX12_tells_175 : decode cX12_tells 175 = .ok (.aload_n 0, 1) := by decide +kernel
theorem dX12_tells_176 : decode cX12_tells 176 = .ok (.iload_n 1, 1) := by decide +kernel
theorem dX12_tells_177 : decode cX12_tells 177 = .ok (.aload_n 0, 1) := by decide +kernel
theorem dX12_tells_178 : decode cX12_tells 178 = .ok (.getfield 38, 3) := by decide +kernel
theorem dX12_tells_181 : decode cX12_tells 181 = .ok (.iload_n 1, 1) := by decide +kernel
theorem dX12_tells_182 : decode cX12_tells 182 = .ok (.iaload, 1) := by decide +kernel
theorem dX12_tells_183 : decode cX12_tells 183 = .ok (.aload_n 0, 1) := by decide +kernel
theorem dX12_tells_184 : decode cX12_tells 184 = .ok (.getfield 41, 3) := by decide +kernel
theorem dX12_tells_187 : decode cX12_tells 187 = .ok (.iload_n 1, 1) := by decide +kernel
theorem dX12_tells_188 : decode cX12_tells 188 = .ok (.iaload, 1) := by decide +kernel
theorem dX12_tells_189 : decode cX12_tells 189 = .ok (.invokevirtual 558, 3) := by decide +kernel
theorem dX12_tells_192 : decode cX12_tells 192 = .ok (.aload_n 0, 1) := by decide +kernel
theorem dX12_tells_193 : decode cX12_tells 193 = .ok (.bipush 58, 2) := by decide +kernel
theorem dX12_tells_195 : decode cX12_tells 195 = .ok (.invokevirtual 547, 3) := by decide +kernel
theorem dX12_tells_198 : decode cX12_tells 198 = .ok (.return_, 1) := by decide +kernel
theorem dX12_tell_0 : decode cX12_tell 0 = .ok (.aload_n 0, 1) := by decide +kernel
theorem dX12_tell_1 : decode cX12_tell 1 = .ok (.iload_n 1, 1) := by decide +kernel
theorem dX12_tell_2 : decode cX12_tell 2 = .ok (.invokevirtual 337, 3) := by decide +kernel
theorem dX12_tell_5 : decode cX12_tell 5 = .ok (.ifCond .ne 5, 3) := by decide +kernel
theorem dX12_tell_8 : decode cX12_tell 8 = .ok (.iconst (-1), 1) := by decide +kernel
theorem dX12_tell_9 : decode cX12_tell 9 = .ok (.ireturn, 1) := by decide +kernel
theorem dX12_tell_10 : decode cX12_tell 10 = .ok (.aload_n 0, 1) := by decide +kernel
theorem dX12_tell_11 : decode cX12_tell 11 = .ok (.iconst 0, 1) := by decide +kernel
theorem dX12_tell_12 : decode cX12_tell 12 = .ok (.putfield 541, 3) := by decide +kernel
theorem dX12_tell_15 : decode cX12_tell 15 = .ok (.aload_n 0, 1) := by decide +kernel
theorem dX12_tell_16 : decode cX12_tell 16 = .ok (.iconst 0, 1) := by decide +kernel
theorem dX12_tell_17 : decode cX12_tell 17 = .ok (.putfield 544, 3) := by decide +kernel
theorem dX12_tell_20 : decode cX12_tell 20 = .ok (.aload_n 0, 1) := by decide +kernel
theorem dX12_tell_21 : decode cX12_tell 21 = .ok (.iconst 0, 1) := by decide +kernel
theorem dX12_tell_22 : decode cX12_tell 22 = .ok (.putfield 524, 3) := by decide +kernel
theorem dX12_tell_25 : decode cX12_tell 25 = .ok (.aload_n 0, 1) := by decide +kernel
theorem dX12_tell_26 : decode cX12_tell 26 = .ok (.bipush 40, 2) := by decide +kernel
theorem dX12_tell_28 : decode cX12_tell 28 = .ok (.iload_n 1, 1) := by decide +kernel
theorem dX12_tell_29 : decode cX12_tell 29 = .ok (.imul, 1) := by decide +kernel
theorem dX12_tell_30 : decode cX12_tell 30 = .ok (.iconst (-1), 1) := by decide +kernel
theorem dX12_tell_31 : decode cX12_tell 31 = .ok (.iconst 0, 1) := by decide +kernel
theorem dX12_tell_32 : decode cX12_tell 32 = .ok (.invokevirtual 527, 3) := by decide +kernel
theorem dX12_tell_35 : decode cX12_tell 35 = .ok (.aload_n 0, 1) := by decide +kernel
theorem dX12_tell_36 : decode cX12_tell 36 = .ok (.getfield 524, 3) := by decide +kernel
theorem dX12_tell_39 : decode cX12_tell 39 = .ok (.ifCond .le 161, 3) := by decide +kernel
theorem dX12_tell_42 : decode cX12_tell 42 = .ok (.aload_n 0, 1) := by decide +kernel
theorem dX12_tell_43 : decode cX12_tell 43 = .ok (.dup, 1) := by decide +kernel
theorem dX12_tell_44 : decode cX12_tell 44 = .ok (.getfield 524, 3) := by decide +kernel
theorem dX12_tell_47 : decode cX12_tell 47 = .ok (.iconst 1, 1) := by decide +kernel
theorem dX12_tell_48 : decode cX12_tell 48 = .ok (.isub, 1) := by decide +kernel
theorem dX12_tell_49 : decode cX12_tell 49 = .ok (.putfield 524, 3) := by decide +kernel
theorem dX12_tell_52 : decode cX12_tell 52 = .ok (.aload_n 0, 1) := by decide +kernel
theorem dX12_tell_53 : decode cX12_tell 53 = .ok (.getfield 231, 3) := by decide +kernel
theorem dX12_tell_56 : decode cX12_tell 56 = .ok (.aload_n 0, 1) := by decide +kernel
theorem dX12_tell_57 : decode cX12_tell 57 = .ok (.getfield 524, 3) := by decide +kernel
theorem dX12_tell_60 : decode cX12_tell 60 = .ok (.iaload, 1) := by decide +kernel
theorem dX12_tell_61 : decode cX12_tell 61 = .ok (.istore_n 2, 1) := by decide +kernel
theorem dX12_tell_62 : decode cX12_tell 62 = .ok (.iload_n 2, 1) := by decide +kernel
theorem dX12_tell_63 : decode cX12_tell 63 = .ok (.ifCond .ge 22, 3) := by decide +kernel
theorem dX12_tell_66 : decode cX12_tell 66 = .ok (.aload_n 0, 1) := by decide +kernel
theorem dX12_tell_67 : decode cX12_tell 67 = .ok (.iload_n 2, 1) := by decide +kernel
theorem dX12_tell_68 : decode cX12_tell 68 = .ok (.iconst (-1), 1) := by decide +kernel
theorem dX12_tell_69 : decode cX12_tell 69 = .ok (.if_icmp .ne 8, 3) := by decide +kernel
theorem dX12_tell_72 : decode cX12_tell 72 = .ok (.bipush 44, 2) := by decide +kernel
theorem dX12_tell_74 : decode cX12_tell 74 = .ok (.goto 5, 3) := by decide +kernel
theorem dX12_tell_77 : decode cX12_tell 77 = .ok (.bipush 41, 2) := by decide +kernel
theorem dX12_tell_79 : decode cX12_tell 79 = .ok (.invokevirtual 547, 3) := by decide +kernel
theorem dX12_tell_82 : decode cX12_tell 82 = .ok (.goto (-47), 3) := by decide +kernel
theorem dX12_tell_85 : decode cX12_tell 85 = .ok (.aload_n 0, 1) := by decide +kernel
theorem dX12_tell_86 : decode cX12_tell 86 = .ok (.iload_n 2, 1) := by decide +kernel
theorem dX12_tell_87 : decode cX12_tell 87 = .ok (.invokevirtual 561, 3) := by decide +kernel
theorem dX12_tell_90 : decode cX12_tell 90 = .ok (.aload_n 0, 1) := by decide +kernel
theorem dX12_tell_91 : decode cX12_tell 91 = .ok (.getfield 20, 3) := by decide +kernel
theorem dX12_tell_94 : decode cX12_tell 94 = .ok (.iload_n 2, 1) := by decide +kernel
theorem dX12_tell_95 : decode cX12_tell 95 = .ok (.iaload, 1) := by decide +kernel
theorem dX12_tell_96 : decode cX12_tell 96 = .ok (.ifCond .eq (-61), 3) := by decide +kernel
theorem dX12_tell_99 : decode cX12_tell 99 = .ok (.aload_n 0, 1) := by decide +kernel
theorem dX12_tell_100 : decode cX12_tell 100 = .ok (.getfield 20, 3) := by decide +kernel
theorem dX12_tell_103 : decode cX12_tell 103 = .ok (.iload_n 2, 1) := by decide +kernel
theorem dX12_tell_104 : decode cX12_tell 104 = .ok (.iaload, 1) := by decide +kernel
theorem dX12_tell_105 : decode cX12_tell 105 = .ok (.iconst 1, 1) := by decide +kernel
theorem dX12_tell_106 : decode cX12_tell 106 = .ok (.if_icmp .ne 6, 3) := by decide +kernel
theorem dX12_tell_109 : decode cX12_tell 109 = .ok (.goto (-74), 3) := by decide +kernel
theorem dX12_tell_112 : decode cX12_tell 112 = .ok (.aload_n 0, 1) := by decide +kernel
theorem dX12_tell_113 : decode cX12_tell 113 = .ok (.getfield 20, 3) := by decide +kernel
theorem dX12_tell_116 : decode cX12_tell 116 = .ok (.iload_n 2, 1) := by decide +kernel
theorem dX12_tell_117 : decode cX12_tell 117 = .ok (.iaload, 1) := by decide +kernel
theorem dX12_tell_118 : decode cX12_tell 118 = .ok (.iconst 3, 1) := by decide +kernel
theorem dX12_tell_119 : decode cX12_tell 119 = .ok (.if_icmp .eq 23, 3) := by decide +kernel
theorem dX12_tell_122 : decode cX12_tell 122 = .ok (.aload_n 0, 1) := by decide +kernel
theorem dX12_tell_123 : decode cX12_tell 123 = .ok (.getfield 20, 3) := by decide +kernel
theorem dX12_tell_126 : decode cX12_tell 126 = .ok (.iload_n 2, 1) := by decide +kernel
theorem dX12_tell_127 : decode cX12_tell 127 = .ok (.iaload, 1) := by decide +kernel
theorem dX12_tell_128 : decode cX12_tell 128 = .ok (.iconst 4, 1) := by decide +kernel
theorem dX12_tell_129 : decode cX12_tell 129 = .ok (.if_icmp .eq 13, 3) := by decide +kernel
theorem dX12_tell_132 : decode cX12_tell 132 = .ok (.aload_n 0, 1) := by decide +kernel
theorem dX12_tell_133 : decode cX12_tell 133 = .ok (.getfield 20, 3) := by decide +kernel
theorem dX12_tell_136 : decode cX12_tell 136 = .ok (.iload_n 2, 1) := by decide +kernel
theorem dX12_tell_137 : decode cX12_tell 137 = .ok (.iaload, 1) := by decide +kernel
theorem dX12_tell_138 : decode cX12_tell 138 = .ok (.iconst 5, 1) := by decide +kernel
theorem dX12_tell_139 : decode cX12_tell 139 = .ok (.if_icmp .ne 7, 3) := by decide +kernel
theorem dX12_tell_142 : decode cX12_tell 142 = .ok (.iconst 1, 1) := by decide +kernel
theorem dX12_tell_143 : decode cX12_tell 143 = .ok (.goto 4, 3) := by decide +kernel
theorem dX12_tell_146 : decode cX12_tell 146 = .ok (.iconst 0, 1) := by decide +kernel
theorem dX12_tell_147 : decode cX12_tell 147 = .ok (.istore_n 3, 1) := by decide +kernel
theorem dX12_tell_148 : decode cX12_tell 148 = .ok (.iload_n 3, 1) := by decide +kernel
theorem dX12_tell_149 : decode cX12_tell 149 = .ok (.ifCond .eq 36, 3) := by decide +kernel
theorem dX12_tell_152 : decode cX12_tell 152 = .ok (.aload_n 0, 1) := by decide +kernel
theorem dX12_tell_153 : decode cX12_tell 153 = .ok (.bipush 40, 2) := by decide +kernel
theorem dX12_tell_155 : decode cX12_tell 155 = .ok (.invokevirtual 547, 3) := by decide +kernel
theorem dX12_tell_158 : decode cX12_tell 158 = .ok (.aload_n 0, 1) := by decide +kernel
theorem dX12_tell_159 : decode cX12_tell 159 = .ok (.bipush (-2), 2) := by decide +kernel
theorem dX12_tell_161 : decode cX12_tell 161 = .ok (.iconst (-1), 1) := by decide +kernel
theorem dX12_tell_162 : decode cX12_tell 162 = .ok (.iconst 0, 1) := by decide +kernel
theorem dX12_tell_163 : decode cX12_tell 163 = .ok (.invokevirtual 527, 3) := by decide +kernel
theorem dX12_tell_166 : decode cX12_tell 166 = .ok (.aload_n 0, 1) := by decide +kernel
theorem dX12_tell_167 : decode cX12_tell 167 = .ok (.aload_n 0, 1) := by decide +kernel
theorem dX12_tell_168 : decode cX12_tell 168 = .ok (.getfield 35, 3) := by decide +kernel
theorem dX12_tell_171 : decode cX12_tell 171 = .ok (.iload_n 2, 1) := by decide +kernel
theorem dX12_tell_172 : decode cX12_tell 172 = .ok (.iaload, 1) := by decide +kernel
theorem dX12_tell_173 : decode cX12_tell 173 = .ok (.iconst (-1), 1) := by decide +kernel
theorem dX12_tell_174 : decode cX12_tell 174 = .ok (.iconst 0, 1) := by decide +kernel
theorem dX12_tell_175 : decode cX12_tell 175 = .ok (.invokevirtual 527, 3) := by decide +kernel
theorem dX12_tell_178 : decode cX12_tell 178 = .ok (.aload_n 0, 1) := by decide +kernel
theorem dX12_tell_179 : decode cX12_tell 179 = .ok (.iconst (-1), 1) := by decide +kernel
theorem dX12_tell_180 : decode cX12_tell 180 = .ok (.iconst (-1), 1) := by decide +kernel
theorem dX12_tell_181 : decode cX12_tell 181 = .ok (.iconst 0, 1) := by decide +kernel
theorem dX12_tell_182 : decode cX12_tell 182 = .ok (.invokevirtual 527, 3) := by decide +kernel
theorem dX12_tell_185 : decode cX12_tell 185 = .ok (.aload_n 0, 1) := by decide +kernel
theorem dX12_tell_186 : decode cX12_tell 186 = .ok (.aload_n 0, 1) := by decide +kernel
theorem dX12_tell_187 : decode cX12_tell 187 = .ok (.getfield 32, 3) := by decide +kernel
theorem dX12_tell_190 : decode cX12_tell 190 = .ok (.iload_n 2, 1) := by decide +kernel
theorem dX12_tell_191 : decode cX12_tell 191 = .ok (.iaload, 1) := by decide +kernel
theorem dX12_tell_192 : decode cX12_tell 192 = .ok (.iconst (-1), 1) := by decide +kernel
theorem dX12_tell_193 : decode cX12_tell 193 = .ok (.iconst 0, 1) := by decide +kernel
theorem dX12_tell_194 : decode cX12_tell 194 = .ok (.invokevirtual 527, 3) := by decide +kernel
theorem dX12_tell_197 : decode cX12_tell 197 = .ok (.goto (-162), 3) := by decide +kernel
theorem dX12_tell_200 : decode cX12_tell 200 = .ok (.aload_n 0, 1) := by decide +kernel
theorem dX12_tell_201 : decode cX12_tell 201 = .ok (.getfield 541, 3) := by decide +kernel
theorem dX12_tell_204 : decode cX12_tell 204 = .ok (.ireturn, 1) := by decide +kernel
theorem dX12_octet_0 : decode cX12_octet 0 = .ok (.iload_n 1, 1) := by decide +kernel
theorem dX12_octet_1 : decode cX12_octet 1 = .ok (.i2l, 1) := by decide +kernel
theorem dX12_octet_2 : decode cX12_octet 2 = .ok (.lconst 0, 1) := by decide +kernel
theorem dX12_octet_3 : decode cX12_octet 3 = .ok (.aload_n 0, 1) := by decide +kernel
theorem dX12_octet_4 : decode cX12_octet 4 = .ok (.getfield 541, 3) := by decide +kernel
theorem dX12_octet_7 : decode cX12_octet 7 = .ok (.iconst 1, 1) := by decide +kernel
theorem dX12_octet_8 : decode cX12_octet 8 = .ok (.isub, 1) := by decide +kernel
theorem dX12_octet_9 : decode cX12_octet 9 = .ok (.i2l, 1) := by decide +kernel
theorem dX12_octet_10 : decode cX12_octet 10 = .ok (.invokestatic 245, 3) := by decide +kernel
theorem dX12_octet_13 : decode cX12_octet 13 = .ok (.ifCond .eq 12, 3) := by decide +kernel
theorem dX12_octet_16 : decode cX12_octet 16 = .ok (.aload_n 0, 1) := by decide +kernel
theorem dX12_octet_17 : decode cX12_octet 17 = .ok (.getfield 240, 3) := by decide +kernel
theorem dX12_octet_20 : decode cX12_octet 20 = .ok (.iload_n 1, 1) := by decide +kernel
theorem dX12_octet_21 : decode cX12_octet 21 = .ok (.baload, 1) := by decide +kernel
theorem dX12_octet_22 : decode cX12_octet 22 = .ok (.goto 4, 3) := by decide +kernel
theorem dX12_octet_25 : decode cX12_octet 25 = .ok (.iconst (-1), 1) := by decide +kernel
theorem dX12_octet_26 : decode cX12_octet 26 = .ok (.ireturn, 1) := by decide +kernel
theorem dX12_count_0 : decode cX12_count 0 = .ok (.iload_n 1, 1) := by decide +kernel
theorem dX12_count_1 : decode cX12_count 1 = .ok (.tableswitch 87 0 7 #[47, 52, 57, 62, 67, 72, 77, 82], 47) := by decide +kernel
theorem dX12_count_48 : decode cX12_count 48 = .ok (.aload_n 0, 1) := by decide +kernel
theorem dX12_count_49 : decode cX12_count 49 = .ok (.getfield 249, 3) := by decide +kernel
theorem dX12_count_52 : decode cX12_count 52 = .ok (.ireturn, 1) := by decide +kernel
theorem dX12_count_53 : decode cX12_count 53 = .ok (.aload_n 0, 1) := by decide +kernel
theorem dX12_count_54 : decode cX12_count 54 = .ok (.getfield 307, 3) := by decide +kernel
theorem dX12_count_57 : decode cX12_count 57 = .ok (.ireturn, 1) := by decide +kernel
theorem dX12_count_58 : decode cX12_count 58 = .ok (.aload_n 0, 1) := by decide +kernel
theorem dX12_count_59 : decode cX12_count 59 = .ok (.getfield 394, 3) := by decide +kernel
theorem dX12_count_62 : decode cX12_count 62 = .ok (.ireturn, 1) := by decide +kernel
theorem dX12_count_63 : decode cX12_count 63 = .ok (.aload_n 0, 1) := by decide +kernel
theorem dX12_count_64 : decode cX12_count 64 = .ok (.getfield 364, 3) := by decide +kernel
theorem dX12_count_67 : decode cX12_count 67 = .ok (.ireturn, 1) := by decide +kernel
theorem dX12_count_68 : decode cX12_count 68 = .ok (.aload_n 0, 1) := by decide +kernel
theorem dX12_count_69 : decode cX12_count 69 = .ok (.getfield 262, 3) := by decide +kernel
theorem dX12_count_72 : decode cX12_count 72 = .ok (.ireturn, 1) := by decide +kernel
theorem dX12_count_73 : decode cX12_count 73 = .ok (.aload_n 0, 1) := by decide +kernel
theorem dX12_count_74 : decode cX12_count 74 = .ok (.getfield 541, 3) := by decide +kernel
theorem dX12_count_77 : decode cX12_count 77 = .ok (.ireturn, 1) := by decide +kernel
theorem dX12_count_78 : decode cX12_count 78 = .ok (.aload_n 0, 1) := by decide +kernel
theorem dX12_count_79 : decode cX12_count 79 = .ok (.getfield 151, 3) := by decide +kernel
theorem dX12_count_82 : decode cX12_count 82 = .ok (.ireturn, 1) := by decide +kernel
theorem dX12_count_83 : decode cX12_count 83 = .ok (.aload_n 0, 1) := by decide +kernel
theorem dX12_count_84 : decode cX12_count 84 = .ok (.getfield 367, 3) := by decide +kernel
theorem dX12_count_87 : decode cX12_count 87 = .ok (.ireturn, 1) := by decide +kernel
theorem dX12_count_88 : decode cX12_count 88 = .ok (.iconst (-1), 1) := by decide +kernel
theorem dX12_count_89 : decode cX12_count 89 = .ok (.ireturn, 1) := by decide +kernel
