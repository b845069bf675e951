-- rows of the printed names (given for pasting)
theorem dX10_heap_5 : decode cX10_heap 5 = .ok (.ifCond .ne 6, 3) := by decide +kernel
theorem dX10_heap_8 : decode cX10_heap 8 = .ok (.bipush (-2), 2) := by decide +kernel
theorem dX10_heap_10 : decode cX10_heap 10 = .ok (.ireturn, 1) := by decide +kernel
theorem dX10_heap_11 : decode cX10_heap 11 = .ok (.aload_n 0, 1) := by decide +kernel
theorem dX10_heap_12 : decode cX10_heap 12 = .ok (.getfield 13, 3) := by decide +kernel
theorem dX10_heap_15 : decode cX10_heap 15 = .ok (.istore_n 2, 1) := by decide +kernel
theorem dX10_heap_16 : decode cX10_heap 16 = .ok (.aload_n 0, 1) := by decide +kernel
theorem dX10_heap_17 : decode cX10_heap 17 = .ok (.iload_n 1, 1) := by decide +kernel
theorem dX10_heap_18 : decode cX10_heap 18 = .ok (.putfield 13, 3) := by decide +kernel
theorem dX10_heap_21 : decode cX10_heap 21 = .ok (.iload_n 2, 1) := by decide +kernel
theorem dX10_heap_22 : decode cX10_heap 22 = .ok (.ireturn, 1) := by decide +kernel
theorem dX10_feed_0 : decode cX10_feed 0 = .ok (.aload_n 0, 1) := by decide +kernel
theorem dX10_feed_1 : decode cX10_feed 1 = .ok (.iload_n 1, 1) := by decide +kernel
theorem dX10_feed_2 : decode cX10_feed 2 = .ok (.iconst 0, 1) := by decide +kernel
theorem dX10_feed_3 : decode cX10_feed 3 = .ok (.bipush 127, 2) := by decide +kernel
theorem dX10_feed_5 : decode cX10_feed 5 = .ok (.invokevirtual 179, 3) := by decide +kernel
theorem dX10_feed_8 : decode cX10_feed 8 = .ok (.ifCond .ne 6, 3) := by decide +kernel
theorem dX10_feed_11 : decode cX10_feed 11 = .ok (.bipush (-2), 2) := by decide +kernel
theorem dX10_feed_13 : decode cX10_feed 13 = .ok (.ireturn, 1) := by decide +kernel
theorem dX10_feed_14 : decode cX10_feed 14 = .ok (.aload_n 0, 1) := by decide +kernel
theorem dX10_feed_15 : decode cX10_feed 15 = .ok (.getfield 38, 3) := by decide +kernel
theorem dX10_feed_18 : decode cX10_feed 18 = .ok (.bipush 100, 2) := by decide +kernel
theorem dX10_feed_20 : decode cX10_feed 20 = .ok (.if_icmp .ne 6, 3) := by decide +kernel
theorem dX10_feed_23 : decode cX10_feed 23 = .ok (.bipush (-4), 2) := by decide +kernel
theorem dX10_feed_25 : decode cX10_feed 25 = .ok (.ireturn, 1) := by decide +kernel
theorem dX10_feed_26 : decode cX10_feed 26 = .ok (.aload_n 0, 1) := by decide +kernel
theorem dX10_feed_27 : decode cX10_feed 27 = .ok (.getfield 47, 3) := by decide +kernel
theorem dX10_feed_30 : decode cX10_feed 30 = .ok (.aload_n 0, 1) := by decide +kernel
theorem dX10_feed_31 : decode cX10_feed 31 = .ok (.getfield 38, 3) := by decide +kernel
theorem dX10_feed_34 : decode cX10_feed 34 = .ok (.iload_n 1, 1) := by decide +kernel
theorem dX10_feed_35 : decode cX10_feed 35 = .ok (.iastore, 1) := by decide +kernel
theorem dX10_feed_36 : decode cX10_feed 36 = .ok (.aload_n 0, 1) := by decide +kernel
theorem dX10_feed_37 : decode cX10_feed 37 = .ok (.dup, 1) := by decide +kernel
theorem dX10_feed_38 : decode cX10_feed 38 = .ok (.getfield 38, 3) := by decide +kernel
theorem dX10_feed_41 : decode cX10_feed 41 = .ok (.iconst 1, 1) := by decide +kernel
theorem dX10_feed_42 : decode cX10_feed 42 = .ok (.iadd, 1) := by decide +kernel
theorem dX10_feed_43 : decode cX10_feed 43 = .ok (.putfield 38, 3) := by decide +kernel
theorem dX10_feed_46 : decode cX10_feed 46 = .ok (.aload_n 0, 1) := by decide +kernel
theorem dX10_feed_47 : decode cX10_feed 47 = .ok (.getfield 38, 3) := by decide +kernel
theorem dX10_feed_50 : decode cX10_feed 50 = .ok (.ireturn, 1) := by decide +kernel
theorem dX10_next_0 : decode cX10_next 0 = .ok (.aload_n 0, 1) := by decide +kernel
theorem dX10_next_1 : decode cX10_next 1 = .ok (.getfield 41, 3) := by decide +kernel
theorem dX10_next_4 : decode cX10_next 4 = .ok (.aload_n 0, 1) := by decide +kernel
theorem dX10_next_5 : decode cX10_next 5 = .ok (.getfield 38, 3) := by decide +kernel
theorem dX10_next_8 : decode cX10_next 8 = .ok (.if_icmp .ge 15, 3) := by decide +kernel
theorem dX10_next_11 : decode cX10_next 11 = .ok (.aload_n 0, 1) := by decide +kernel
theorem dX10_next_12 : decode cX10_next 12 = .ok (.getfield 47, 3) := by decide +kernel
theorem dX10_next_15 : decode cX10_next 15 = .ok (.aload_n 0, 1) := by decide +kernel
theorem dX10_next_16 : decode cX10_next 16 = .ok (.getfield 41, 3) := by decide +kernel
theorem dX10_next_19 : decode cX10_next 19 = .ok (.iaload, 1) := by decide +kernel
theorem dX10_next_20 : decode cX10_next 20 = .ok (.goto 4, 3) := by decide +kernel
theorem dX10_next_23 : decode cX10_next 23 = .ok (.iconst (-1), 1) := by decide +kernel
theorem dX10_next_24 : decode cX10_next 24 = .ok (.ireturn, 1) := by decide +kernel
theorem dX10_second_0 : decode cX10_second 0 = .ok (.aload_n 0, 1) := by decide +kernel
theorem dX10_second_1 : decode cX10_second 1 = .ok (.getfield 41, 3) := by decide +kernel
theorem dX10_second_4 : decode cX10_second 4 = .ok (.iconst 1, 1) := by decide +kernel
theorem dX10_second_5 : decode cX10_second 5 = .ok (.iadd, 1) := by decide +kernel
theorem dX10_second_6 : decode cX10_second 6 = .ok (.aload_n 0, 1) := by decide +kernel
theorem dX10_second_7 : decode cX10_second 7 = .ok (.getfield 38, 3) := by decide +kernel
theorem dX10_second_10 : decode cX10_second 10 = .ok (.if_icmp .ge 17, 3) := by decide +kernel
theorem dX10_second_13 : decode cX10_second 13 = .ok (.aload_n 0, 1) := by decide +kernel
theorem dX10_second_14 : decode cX10_second 14 = .ok (.getfield 47, 3) := by decide +kernel
theorem dX10_second_17 : decode cX10_second 17 = .ok (.aload_n 0, 1) := by decide +kernel
theorem dX10_second_18 : decode cX10_second 18 = .ok (.getfield 41, 3) := by decide +kernel
theorem dX10_second_21 : decode cX10_second 21 = .ok (.iconst 1, 1) := by decide +kernel
theorem dX10_second_22 : decode cX10_second 22 = .ok (.iadd, 1) := by decide +kernel
theorem dX10_second_23 : decode cX10_second 23 = .ok (.iaload, 1) := by decide +kernel
theorem dX10_second_24 : decode cX10_second 24 = .ok (.goto 4, 3) := by decide +kernel
theorem dX10_second_27 : decode cX10_second 27 = .ok (.iconst (-1), 1) := by decide +kernel
theorem dX10_second_28 : decode cX10_second 28 = .ok (.ireturn, 1) := by decide +kernel
theorem dX10_takes_0 : decode cX10_takes 0 = .ok (.aload_n 0, 1) := by decide +kernel
theorem dX10_takes_1 : decode cX10_takes 1 = .ok (.invokevirtual 188, 3) := by decide +kernel
theorem dX10_takes_4 : decode cX10_takes 4 = .ok (.iload_n 1, 1) := by decide +kernel
theorem dX10_takes_5 : decode cX10_takes 5 = .ok (.if_icmp .eq 5, 3) := by decide +kernel
theorem dX10_takes_8 : decode cX10_takes 8 = .ok (.iconst 0, 1) := by decide +kernel
theorem dX10_takes_9 : decode cX10_takes 9 = .ok (.ireturn, 1) := by decide +kernel
theorem dX10_takes_10 : decode cX10_takes 10 = .ok (.aload_n 0, 1) := by decide +kernel
theorem dX10_takes_11 : decode cX10_takes 11 = .ok (.dup, 1) := by decide +kernel
theorem dX10_takes_12 : decode cX10_takes 12 = .ok (.getfield 41, 3) := by decide +kernel
theorem dX10_takes_15 : decode cX10_takes 15 = .ok (.iconst 1, 1) := by decide +kernel
theorem dX10_takes_16 : decode cX10_takes 16 = .ok (.iadd, 1) := by decide +kernel
theorem dX10_takes_17 : decode cX10_takes 17 = .ok (.putfield 41, 3) := by decide +kernel
theorem dX10_takes_20 : decode cX10_takes 20 = .ok (.iconst 1, 1) := by decide +kernel
theorem dX10_takes_21 : decode cX10_takes 21 = .ok (.ireturn, 1) := by decide +kernel
theorem dX10_takesWord_0 : decode cX10_takesWord 0 = .ok (.iconst 0, 1) := by decide +kernel
theorem dX10_takesWord_1 : decode cX10_takesWord 1 = .ok (.istore_n 3, 1) := by decide +kernel
theorem dX10_takesWord_2 : decode cX10_takesWord 2 = .ok (.iload_n 3, 1) := by decide +kernel
theorem dX10_takesWord_3 : decode cX10_takesWord 3 = .ok (.iload_n 2, 1) := by decide +kernel
theorem dX10_takesWord_4 : decode cX10_takesWord 4 = .ok (.if_icmp .ge 26, 3) := by decide +kernel
theorem dX10_takesWord_7 : decode cX10_takesWord 7 = .ok (.aload_n 0, 1) := by decide +kernel
theorem dX10_takesWord_8 : decode cX10_takesWord 8 = .ok (.aload_n 0, 1) := by decide +kernel
theorem dX10_takesWord_9 : decode cX10_takesWord 9 = .ok (.getfield 80, 3) := by decide +kernel
theorem dX10_takesWord_12 : decode cX10_takesWord 12 = .ok (.iload_n 1, 1) := by decide +kernel
theorem dX10_takesWord_13 : decode cX10_takesWord 13 = .ok (.iload_n 3, 1) := by decide +kernel
theorem dX10_takesWord_14 : decode cX10_takesWord 14 = .ok (.iadd, 1) := by decide +kernel
theorem dX10_takesWord_15 : decode cX10_takesWord 15 = .ok (.iaload, 1) := by decide +kernel
theorem dX10_takesWord_16 : decode cX10_takesWord 16 = .ok (.invokevirtual 192, 3) := by decide +kernel
theorem dX10_takesWord_19 : decode cX10_takesWord 19 = .ok (.ifCond .ne 5, 3) := by decide +kernel
theorem dX10_takesWord_22 : decode cX10_takesWord 22 = .ok (.iconst 0, 1) := by decide +kernel
theorem dX10_takesWord_23 : decode cX10_takesWord 23 = .ok (.ireturn, 1) := by decide +kernel
theorem dX10_takesWord_24 : decode cX10_takesWord 24 = .ok (.iinc 3 1, 3) := by decide +kernel
theorem dX10_takesWord_27 : decode cX10_takesWord 27 = .ok (.goto (-25), 3) := by decide +kernel
theorem dX10_takesWord_30 : decode cX10_takesWord 30 = .ok (.aload_n 0, 1) := by decide +kernel
theorem dX10_takesWord_31 : decode cX10_takesWord 31 = .ok (.bipush 32, 2) := by decide +kernel
theorem dX10_takesWord_33 : decode cX10_takesWord 33 = .ok (.invokevirtual 192, 3) := by decide +kernel
theorem dX10_takesWord_36 : decode cX10_takesWord 36 = .ok (.ireturn, 1) := by decide +kernel
theorem dX10_isDigit_0 : decode cX10_isDigit 0 = .ok (.aload_n 0, 1) := by decide +kernel
theorem dX10_isDigit_1 : decode cX10_isDigit 1 = .ok (.aload_n 0, 1) := by decide +kernel
theorem dX10_isDigit_2 : decode cX10_isDigit 2 = .ok (.invokevirtual 188, 3) := by decide +kernel
theorem dX10_isDigit_5 : decode cX10_isDigit 5 = .ok (.bipush 48, 2) := by decide +kernel
theorem dX10_isDigit_7 : decode cX10_isDigit 7 = .ok (.bipush 57, 2) := by decide +kernel
theorem dX10_isDigit_9 : decode cX10_isDigit 9 = .ok (.invokevirtual 179, 3) := by decide +kernel
theorem dX10_isDigit_12 : decode cX10_isDigit 12 = .ok (.ireturn, 1) := by decide +kernel
theorem dX10_takesNumber_0 : decode cX10_takesNumber 0 = .ok (.aload_n 0, 1) := by decide +kernel
theorem dX10_takesNumber_1 : decode cX10_takesNumber 1 = .ok (.invokevirtual 195, 3) := by decide +kernel
theorem dX10_takesNumber_4 : decode cX10_takesNumber 4 = .ok (.ifCond .ne 5, 3) := by decide +kernel
theorem dX10_takesNumber_7 : decode cX10_takesNumber 7 = .ok (.iconst 0, 1) := by decide +kernel
theorem dX10_takesNumber_8 : decode cX10_takesNumber 8 = .ok (.ireturn, 1) := by decide +kernel
theorem dX10_takesNumber_9 : decode cX10_takesNumber 9 = .ok (.aload_n 0, 1) := by decide +kernel
theorem dX10_takesNumber_10 : decode cX10_takesNumber 10 = .ok (.iconst 0, 1) := by decide +kernel
theorem dX10_takesNumber_11 : decode cX10_takesNumber 11 = .ok (.putfield 44, 3) := by decide +kernel
theorem dX10_takesNumber_14 : decode cX10_takesNumber 14 = .ok (.iconst 0, 1) := by decide +kernel
theorem dX10_takesNumber_15 : decode cX10_takesNumber 15 = .ok (.istore_n 1, 1) := by decide +kernel
theorem dX10_takesNumber_16 : decode cX10_takesNumber 16 = .ok (.iload_n 1, 1) := by decide +kernel
theorem dX10_takesNumber_17 : decode cX10_takesNumber 17 = .ok (.iconst 2, 1) := by decide +kernel
theorem dX10_takesNumber_18 : decode cX10_takesNumber 18 = .ok (.if_icmp .ge 45, 3) := by decide +kernel
theorem dX10_takesNumber_21 : decode cX10_takesNumber 21 = .ok (.aload_n 0, 1) := by decide +kernel
theorem dX10_takesNumber_22 : decode cX10_takesNumber 22 = .ok (.invokevirtual 195, 3) := by decide +kernel
theorem dX10_takesNumber_25 : decode cX10_takesNumber 25 = .ok (.ifCond .eq 38, 3) := by decide +kernel
theorem dX10_takesNumber_28 : decode cX10_takesNumber 28 = .ok (.aload_n 0, 1) := by decide +kernel
theorem dX10_takesNumber_29 : decode cX10_takesNumber 29 = .ok (.bipush 10, 2) := by decide +kernel
theorem dX10_takesNumber_31 : decode cX10_takesNumber 31 = .ok (.aload_n 0, 1) := by decide +kernel
theorem dX10_takesNumber_32 : decode cX10_takesNumber 32 = .ok (.getfield 44, 3) := by decide +kernel
theorem dX10_takesNumber_35 : decode cX10_takesNumber 35 = .ok (.imul, 1) := by decide +kernel
theorem dX10_takesNumber_36 : decode cX10_takesNumber 36 = .ok (.aload_n 0, 1) := by decide +kernel
theorem dX10_takesNumber_37 : decode cX10_takesNumber 37 = .ok (.invokevirtual 188, 3) := by decide +kernel
theorem dX10_takesNumber_40 : decode cX10_takesNumber 40 = .ok (.iadd, 1) := by decide +kernel
theorem dX10_takesNumber_41 : decode cX10_takesNumber 41 = .ok (.bipush 48, 2) := by decide +kernel
theorem dX10_takesNumber_43 : decode cX10_takesNumber 43 = .ok (.isub, 1) := by decide +kernel
theorem dX10_takesNumber_44 : decode cX10_takesNumber 44 = .ok (.putfield 44, 3) := by decide +kernel
theorem dX10_takesNumber_47 : decode cX10_takesNumber 47 = .ok (.aload_n 0, 1) := by decide +kernel
theorem dX10_takesNumber_48 : decode cX10_takesNumber 48 = .ok (.dup, 1) := by decide +kernel
theorem dX10_takesNumber_49 : decode cX10_takesNumber 49 = .ok (.getfield 41, 3) := by decide +kernel
theorem dX10_takesNumber_52 : decode cX10_takesNumber 52 = .ok (.iconst 1, 1) := by decide +kernel
theorem dX10_takesNumber_53 : decode cX10_takesNumber 53 = .ok (.iadd, 1) := by decide +kernel
theorem dX10_takesNumber_54 : decode cX10_takesNumber 54 = .ok (.putfield 41, 3) := by decide +kernel
theorem dX10_takesNumber_57 : decode cX10_takesNumber 57 = .ok (.iinc 1 1, 3) := by decide +kernel
theorem dX10_takesNumber_60 : decode cX10_takesNumber 60 = .ok (.goto (-44), 3) := by decide +kernel
theorem dX10_takesNumber_63 : decode cX10_takesNumber 63 = .ok (.iconst 1, 1) := by decide +kernel
theorem dX10_takesNumber_64 : decode cX10_takesNumber 64 = .ok (.ireturn, 1) := by decide +kernel
theorem dX10_put_0 : decode cX10_put 0 = .ok (.aload_n 0, 1) := by decide +kernel
theorem dX10_put_1 : decode cX10_put 1 = .ok (.getfield 65, 3) := by decide +kernel
theorem dX10_put_4 : decode cX10_put 4 = .ok (.aload_n 0, 1) := by decide +kernel
theorem dX10_put_5 : decode cX10_put 5 = .ok (.getfield 71, 3) := by decide +kernel
theorem dX10_put_8 : decode cX10_put 8 = .ok (.iload_n 1, 1) := by decide +kernel
theorem dX10_put_9 : decode cX10_put 9 = .ok (.iastore, 1) := by decide +kernel
theorem dX10_put_10 : decode cX10_put 10 = .ok (.aload_n 0, 1) := by decide +kernel
theorem dX10_put_11 : decode cX10_put 11 = .ok (.dup, 1) := by decide +kernel
theorem dX10_put_12 : decode cX10_put 12 = .ok (.getfield 71, 3) := by decide +kernel
theorem dX10_put_15 : decode cX10_put 15 = .ok (.iconst 1, 1) := by decide +kernel
theorem dX10_put_16 : decode cX10_put 16 = .ok (.iadd, 1) := by decide +kernel
theorem dX10_put_17 : decode cX10_put 17 = .ok (.putfield 71, 3) := by decide +kernel
theorem dX10_put_20 : decode cX10_put 20 = .ok (.return_, 1) := by decide +kernel
theorem dX10_whole_0 : decode cX10_whole 0 = .ok (.aload_n 0, 1) := by decide +kernel
theorem dX10_whole_1 : decode cX10_whole 1 = .ok (.getfield 74, 3) := by decide +kernel
theorem dX10_whole_4 : decode cX10_whole 4 = .ok (.ifCond .le 48, 3) := by decide +kernel
theorem dX10_whole_7 : decode cX10_whole 7 = .ok (.aload_n 0, 1) := by decide +kernel
theorem dX10_whole_8 : decode cX10_whole 8 = .ok (.getfield 68, 3) := by decide +kernel
theorem dX10_whole_11 : decode cX10_whole 11 = .ok (.aload_n 0, 1) := by decide +kernel
theorem dX10_whole_12 : decode cX10_whole 12 = .ok (.getfield 74, 3) := by decide +kernel
theorem dX10_whole_15 : decode cX10_whole 15 = .ok (.iconst 1, 1) := by decide +kernel
theorem dX10_whole_16 : decode cX10_whole 16 = .ok (.isub, 1) := by decide +kernel
theorem dX10_whole_17 : decode cX10_whole 17 = .ok (.iaload, 1) := by decide +kernel
theorem dX10_whole_18 : decode cX10_whole 18 = .ok (.bipush 33, 2) := by decide +kernel
theorem dX10_whole_20 : decode cX10_whole 20 = .ok (.if_icmp .ne 32, 3) := by decide +kernel
theorem dX10_whole_23 : decode cX10_whole 23 = .ok (.aload_n 0, 1) := by decide +kernel
theorem dX10_whole_24 : decode cX10_whole 24 = .ok (.bipush (-33), 2) := by decide +kernel
theorem dX10_whole_26 : decode cX10_whole 26 = .ok (.invokevirtual 199, 3) := by decide +kernel
theorem dX10_whole_29 : decode cX10_whole 29 = .ok (.aload_n 0, 1) := by decide +kernel
theorem dX10_whole_30 : decode cX10_whole 30 = .ok (.dup, 1) := by decide +kernel
theorem dX10_whole_31 : decode cX10_whole 31 = .ok (.getfield 74, 3) := by decide +kernel
theorem dX10_whole_34 : decode cX10_whole 34 = .ok (.iconst 1, 1) := by decide +kernel
theorem dX10_whole_35 : decode cX10_whole 35 = .ok (.isub, 1) := by decide +kernel
theorem dX10_whole_36 : decode cX10_whole 36 = .ok (.putfield 74, 3) := by decide +kernel
theorem dX10_whole_39 : decode cX10_whole 39 = .ok (.aload_n 0, 1) := by decide +kernel
theorem dX10_whole_40 : decode cX10_whole 40 = .ok (.dup, 1) := by decide +kernel
theorem dX10_whole_41 : decode cX10_whole 41 = .ok (.getfield 77, 3) := by decide +kernel
theorem dX10_whole_44 : decode cX10_whole 44 = .ok (.iconst 1, 1) := by decide +kernel
theorem dX10_whole_45 : decode cX10_whole 45 = .ok (.isub, 1) := by decide +kernel
theorem dX10_whole_46 : decode cX10_whole 46 = .ok (.putfield 77, 3) := by decide +kernel
theorem dX10_whole_49 : decode cX10_whole 49 = .ok (.goto (-49), 3) := by decide +kernel
theorem dX10_whole_52 : decode cX10_whole 52 = .ok (.return_, 1) := by decide +kernel
theorem dX10_settle_0 : decode cX10_settle 0 = .ok (.aload_n 0, 1) := by decide +kernel
theorem dX10_settle_1 : decode cX10_settle 1 = .ok (.getfield 74, 3) := by decide +kernel
theorem dX10_settle_4 : decode cX10_settle 4 = .ok (.ifCond .le 68, 3) := by decide +kernel
theorem dX10_settle_7 : decode cX10_settle 7 = .ok (.aload_n 0, 1) := by decide +kernel
theorem dX10_settle_8 : decode cX10_settle 8 = .ok (.getfield 68, 3) := by decide +kernel
theorem dX10_settle_11 : decode cX10_settle 11 = .ok (.aload_n 0, 1) := by decide +kernel
theorem dX10_settle_12 : decode cX10_settle 12 = .ok (.getfield 74, 3) := by decide +kernel
theorem dX10_settle_15 : decode cX10_settle 15 = .ok (.iconst 1, 1) := by decide +kernel
theorem dX10_settle_16 : decode cX10_settle 16 = .ok (.isub, 1) := by decide +kernel
theorem dX10_settle_17 : decode cX10_settle 17 = .ok (.iaload, 1) := by decide +kernel
theorem dX10_settle_18 : decode cX10_settle 18 = .ok (.bipush 38, 2) := by decide +kernel
theorem dX10_settle_20 : decode cX10_settle 20 = .ok (.if_icmp .eq 25, 3) := by decide +kernel
theorem dX10_settle_23 : decode cX10_settle 23 = .ok (.aload_n 0, 1) := by decide +kernel
theorem dX10_settle_24 : decode cX10_settle 24 = .ok (.getfield 68, 3) := by decide +kernel
theorem dX10_settle_27 : decode cX10_settle 27 = .ok (.aload_n 0, 1) := by decide +kernel
theorem dX10_settle_28 : decode cX10_settle 28 = .ok (.getfield 74, 3) := by decide +kernel
theorem dX10_settle_31 : decode cX10_settle 31 = .ok (.iconst 1, 1) := by decide +kernel
theorem dX10_settle_32 : decode cX10_settle 32 = .ok (.isub, 1) := by decide +kernel
theorem dX10_settle_33 : decode cX10_settle 33 = .ok (.iaload, 1) := by decide +kernel
theorem dX10_settle_34 : decode cX10_settle 34 = .ok (.bipush 124, 2) := by decide +kernel
theorem dX10_settle_36 : decode cX10_settle 36 = .ok (.if_icmp .ne 36, 3) := by decide +kernel
theorem dX10_settle_39 : decode cX10_settle 39 = .ok (.iload_n 1, 1) := by decide +kernel
theorem dX10_settle_40 : decode cX10_settle 40 = .ok (.bipush 38, 2) := by decide +kernel
theorem dX10_settle_42 : decode cX10_settle 42 = .ok (.if_icmp .eq 30, 3) := by decide +kernel
theorem dX10_settle_45 : decode cX10_settle 45 = .ok (.aload_n 0, 1) := by decide +kernel
theorem dX10_settle_46 : decode cX10_settle 46 = .ok (.dup, 1) := by decide +kernel
theorem dX10_settle_47 : decode cX10_settle 47 = .ok (.getfield 74, 3) := by decide +kernel
theorem dX10_settle_50 : decode cX10_settle 50 = .ok (.iconst 1, 1) := by decide +kernel
theorem dX10_settle_51 : decode cX10_settle 51 = .ok (.isub, 1) := by decide +kernel
theorem dX10_settle_52 : decode cX10_settle 52 = .ok (.putfield 74, 3) := by decide +kernel
theorem dX10_settle_55 : decode cX10_settle 55 = .ok (.aload_n 0, 1) := by decide +kernel
theorem dX10_settle_56 : decode cX10_settle 56 = .ok (.aload_n 0, 1) := by decide +kernel
theorem dX10_settle_57 : decode cX10_settle 57 = .ok (.getfield 68, 3) := by decide +kernel
theorem dX10_settle_60 : decode cX10_settle 60 = .ok (.aload_n 0, 1) := by decide +kernel
theorem dX10_settle_61 : decode cX10_settle 61 = .ok (.getfield 74, 3) := by decide +kernel
theorem dX10_settle_64 : decode cX10_settle 64 = .ok (.iaload, 1) := by decide +kernel
theorem dX10_settle_65 : decode cX10_settle 65 = .ok (.ineg, 1) := by decide +kernel
theorem dX10_settle_66 : decode cX10_settle 66 = .ok (.invokevirtual 199, 3) := by decide +kernel
theorem dX10_settle_69 : decode cX10_settle 69 = .ok (.goto (-69), 3) := by decide +kernel
theorem dX10_settle_72 : decode cX10_settle 72 = .ok (.return_, 1) := by decide +kernel
theorem dX10_place_0 : decode cX10_place 0 = .ok (.iload_n 1, 1) := by decide +kernel
theorem dX10_place_1 : decode cX10_place 1 = .ok (.lookupswitch 61 #[(104, 59), (105, 51), (107, 53), (118, 55), (119, 57)], 51) := by decide +kernel
theorem dX10_place_52 : decode cX10_place 52 = .ok (.iconst 0, 1) := by decide +kernel
theorem dX10_place_53 : decode cX10_place 53 = .ok (.ireturn, 1) := by decide +kernel
theorem dX10_place_54 : decode cX10_place 54 = .ok (.iconst 1, 1) := by decide +kernel
theorem dX10_place_55 : decode cX10_place 55 = .ok (.ireturn, 1) := by decide +kernel
theorem dX10_place_56 : decode cX10_place 56 = .ok (.iconst 2, 1) := by decide +kernel
theorem dX10_place_57 : decode cX10_place 57 = .ok (.ireturn, 1) := by decide +kernel
theorem dX10_place_58 : decode cX10_place 58 = .ok (.iconst 3, 1) := by decide +kernel
theorem dX10_place_59 : decode cX10_place 59 = .ok (.ireturn, 1) := by decide +kernel
theorem dX10_place_60 : decode cX10_place 60 = .ok (.iconst 4, 1) := by decide +kernel
theorem dX10_place_61 : decode cX10_place 61 = .ok (.ireturn, 1) := by decide +kernel
theorem dX10_place_62 : decode cX10_place 62 = .ok (.iconst (-1), 1) := by decide +kernel
theorem dX10_place_63 : decode cX10_place 63 = .ok (.ireturn, 1) := by decide +kernel
theorem dX10_takesTest_0 : decode cX10_takesTest 0 = .ok (.aload_n 0, 1) := by decide +kernel
theorem dX10_takesTest_1 : decode cX10_takesTest 1 = .ok (.aload_n 0, 1) := by decide +kernel
theorem dX10_takesTest_2 : decode cX10_takesTest 2 = .ok (.invokevirtual 188, 3) := by decide +kernel
theorem dX10_takesTest_5 : decode cX10_takesTest 5 = .ok (.invokevirtual 203, 3) := by decide +kernel
theorem dX10_takesTest_8 : decode cX10_takesTest 8 = .ok (.istore_n 1, 1) := by decide +kernel
theorem dX10_takesTest_9 : decode cX10_takesTest 9 = .ok (.iload_n 1, 1) := by decide +kernel
theorem dX10_takesTest_10 : decode cX10_takesTest 10 = .ok (.ifCond .ge 5, 3) := by decide +kernel
theorem dX10_takesTest_13 : decode cX10_takesTest 13 = .ok (.iconst 0, 1) := by decide +kernel
theorem dX10_takesTest_14 : decode cX10_takesTest 14 = .ok (.ireturn, 1) := by decide +kernel
theorem dX10_takesTest_15 : decode cX10_takesTest 15 = .ok (.aload_n 0, 1) := by decide +kernel
theorem dX10_takesTest_16 : decode cX10_takesTest 16 = .ok (.dup, 1) := by decide +kernel
theorem dX10_takesTest_17 : decode cX10_takesTest 17 = .ok (.getfield 41, 3) := by decide +kernel
theorem dX10_takesTest_20 : decode cX10_takesTest 20 = .ok (.iconst 1, 1) := by decide +kernel
theorem dX10_takesTest_21 : decode cX10_takesTest 21 = .ok (.iadd, 1) := by decide +kernel
theorem dX10_takesTest_22 : decode cX10_takesTest 22 = .ok (.putfield 41, 3) := by decide +kernel
theorem dX10_takesTest_25 : decode cX10_takesTest 25 = .ok (.aload_n 0, 1) := by decide +kernel
theorem dX10_takesTest_26 : decode cX10_takesTest 26 = .ok (.invokevirtual 188, 3) := by decide +kernel
theorem dX10_takesTest_29 : decode cX10_takesTest 29 = .ok (.istore_n 2, 1) := by decide +kernel
theorem dX10_takesTest_30 : decode cX10_takesTest 30 = .ok (.aload_n 0, 1) := by decide +kernel
theorem dX10_takesTest_31 : decode cX10_takesTest 31 = .ok (.iload_n 2, 1) := by decide +kernel
theorem dX10_takesTest_32 : decode cX10_takesTest 32 = .ok (.bipush 60, 2) := by decide +kernel
theorem dX10_takesTest_34 : decode cX10_takesTest 34 = .ok (.bipush 62, 2) := by decide +kernel
theorem dX10_takesTest_36 : decode cX10_takesTest 36 = .ok (.invokevirtual 179, 3) := by decide +kernel
theorem dX10_takesTest_39 : decode cX10_takesTest 39 = .ok (.ifCond .ne 5, 3) := by decide +kernel
theorem dX10_takesTest_42 : decode cX10_takesTest 42 = .ok (.iconst 0, 1) := by decide +kernel
theorem dX10_takesTest_43 : decode cX10_takesTest 43 = .ok (.ireturn, 1) := by decide +kernel
theorem dX10_takesTest_44 : decode cX10_takesTest 44 = .ok (.aload_n 0, 1) := by decide +kernel
theorem dX10_takesTest_45 : decode cX10_takesTest 45 = .ok (.dup, 1) := by decide +kernel
theorem dX10_takesTest_46 : decode cX10_takesTest 46 = .ok (.getfield 41, 3) := by decide +kernel
theorem dX10_takesTest_49 : decode cX10_takesTest 49 = .ok (.iconst 1, 1) := by decide +kernel
theorem dX10_takesTest_50 : decode cX10_takesTest 50 = .ok (.iadd, 1) := by decide +kernel
theorem dX10_takesTest_51 : decode cX10_takesTest 51 = .ok (.putfield 41, 3) := by decide +kernel
theorem dX10_takesTest_54 : decode cX10_takesTest 54 = .ok (.aload_n 0, 1) := by decide +kernel
theorem dX10_takesTest_55 : decode cX10_takesTest 55 = .ok (.invokevirtual 207, 3) := by decide +kernel
theorem dX10_takesTest_58 : decode cX10_takesTest 58 = .ok (.ifCond .ne 5, 3) := by decide +kernel
theorem dX10_takesTest_61 : decode cX10_takesTest 61 = .ok (.iconst 0, 1) := by decide +kernel
theorem dX10_takesTest_62 : decode cX10_takesTest 62 = .ok (.ireturn, 1) := by decide +kernel
theorem dX10_takesTest_63 : decode cX10_takesTest 63 = .ok (.aload_n 0, 1) := by decide +kernel
theorem dX10_takesTest_64 : decode cX10_takesTest 64 = .ok (.sipush 1000, 3) := by decide +kernel
theorem dX10_takesTest_67 : decode cX10_takesTest 67 = .ok (.iload_n 1, 1) := by decide +kernel
theorem dX10_takesTest_68 : decode cX10_takesTest 68 = .ok (.imul, 1) := by decide +kernel
theorem dX10_takesTest_69 : decode cX10_takesTest 69 = .ok (.bipush 100, 2) := by decide +kernel
theorem dX10_takesTest_71 : decode cX10_takesTest 71 = .ok (.iload_n 2, 1) := by decide +kernel
theorem dX10_takesTest_72 : decode cX10_takesTest 72 = .ok (.bipush 60, 2) := by decide +kernel
theorem dX10_takesTest_74 : decode cX10_takesTest 74 = .ok (.isub, 1) := by decide +kernel
theorem dX10_takesTest_75 : decode cX10_takesTest 75 = .ok (.imul, 1) := by decide +kernel
theorem dX10_takesTest_76 : decode cX10_takesTest 76 = .ok (.iadd, 1) := by decide +kernel
theorem dX10_takesTest_77 : decode cX10_takesTest 77 = .ok (.aload_n 0, 1) := by decide +kernel
theorem dX10_takesTest_78 : decode cX10_takesTest 78 = .ok (.getfield 44, 3) := by decide +kernel
theorem dX10_takesTest_81 : decode cX10_takesTest 81 = .ok (.iadd, 1) := by decide +kernel
theorem dX10_takesTest_82 : decode cX10_takesTest 82 = .ok (.invokevirtual 199, 3) := by decide +kernel
theorem dX10_takesTest_85 : decode cX10_takesTest 85 = .ok (.aload_n 0, 1) := by decide +kernel
theorem dX10_takesTest_86 : decode cX10_takesTest 86 = .ok (.invokevirtual 210, 3) := by decide +kernel
theorem dX10_takesTest_89 : decode cX10_takesTest 89 = .ok (.iconst 1, 1) := by decide +kernel
theorem dX10_takesTest_90 : decode cX10_takesTest 90 = .ok (.ireturn, 1) := by decide +kernel
theorem dX10_takesE_0 : decode cX10_takesE 0 = .ok (.aload_n 0, 1) := by decide +kernel
theorem dX10_takesE_1 : decode cX10_takesE 1 = .ok (.iconst 0, 1) := by decide +kernel
theorem dX10_takesE_2 : decode cX10_takesE 2 = .ok (.putfield 74, 3) := by decide +kernel
theorem dX10_takesE_5 : decode cX10_takesE 5 = .ok (.aload_n 0, 1) := by decide +kernel
theorem dX10_takesE_6 : decode cX10_takesE 6 = .ok (.iconst 0, 1) := by decide +kernel
theorem dX10_takesE_7 : decode cX10_takesE 7 = .ok (.putfield 77, 3) := by decide +kernel
theorem dX10_takesE_10 : decode cX10_takesE 10 = .ok (.aload_n 0, 1) := by decide +kernel
theorem dX10_takesE_11 : decode cX10_takesE 11 = .ok (.getfield 59, 3) := by decide +kernel
theorem dX10_takesE_14 : decode cX10_takesE 14 = .ok (.iload_n 1, 1) := by decide +kernel
theorem dX10_takesE_15 : decode cX10_takesE 15 = .ok (.aload_n 0, 1) := by decide +kernel
theorem dX10_takesE_16 : decode cX10_takesE 16 = .ok (.getfield 71, 3) := by decide +kernel
theorem dX10_takesE_19 : decode cX10_takesE 19 = .ok (.iastore, 1) := by decide +kernel
theorem dX10_takesE_20 : decode cX10_takesE 20 = .ok (.iconst 1, 1) := by decide +kernel
theorem dX10_takesE_21 : decode cX10_takesE 21 = .ok (.istore_n 2, 1) := by decide +kernel
theorem dX10_takesE_22 : decode cX10_takesE 22 = .ok (.aload_n 0, 1) := by decide +kernel
theorem dX10_takesE_23 : decode cX10_takesE 23 = .ok (.invokevirtual 188, 3) := by decide +kernel
theorem dX10_takesE_26 : decode cX10_takesE 26 = .ok (.istore_n 3, 1) := by decide +kernel
theorem dX10_takesE_27 : decode cX10_takesE 27 = .ok (.iload_n 2, 1) := by decide +kernel
theorem dX10_takesE_28 : decode cX10_takesE 28 = .ok (.ifCond .eq 82, 3) := by decide +kernel
theorem dX10_takesE_31 : decode cX10_takesE 31 = .ok (.iload_n 3, 1) := by decide +kernel
theorem dX10_takesE_32 : decode cX10_takesE 32 = .ok (.bipush 33, 2) := by decide +kernel
theorem dX10_takesE_34 : decode cX10_takesE 34 = .ok (.if_icmp .eq 9, 3) := by decide +kernel
theorem dX10_takesE_37 : decode cX10_takesE 37 = .ok (.iload_n 3, 1) := by decide +kernel
theorem dX10_takesE_38 : decode cX10_takesE 38 = .ok (.bipush 40, 2) := by decide +kernel
theorem dX10_takesE_40 : decode cX10_takesE 40 = .ok (.if_icmp .ne 56, 3) := by decide +kernel
theorem dX10_takesE_43 : decode cX10_takesE 43 = .ok (.aload_n 0, 1) := by decide +kernel
theorem dX10_takesE_44 : decode cX10_takesE 44 = .ok (.getfield 77, 3) := by decide +kernel
theorem dX10_takesE_47 : decode cX10_takesE 47 = .ok (.iconst 4, 1) := by decide +kernel
theorem dX10_takesE_48 : decode cX10_takesE 48 = .ok (.if_icmp .ne 5, 3) := by decide +kernel
theorem dX10_takesE_51 : decode cX10_takesE 51 = .ok (.iconst 0, 1) := by decide +kernel
theorem dX10_takesE_52 : decode cX10_takesE 52 = .ok (.ireturn, 1) := by decide +kernel
theorem dX10_takesE_53 : decode cX10_takesE 53 = .ok (.aload_n 0, 1) := by decide +kernel
theorem dX10_takesE_54 : decode cX10_takesE 54 = .ok (.dup, 1) := by decide +kernel
theorem dX10_takesE_55 : decode cX10_takesE 55 = .ok (.getfield 77, 3) := by decide +kernel
theorem dX10_takesE_58 : decode cX10_takesE 58 = .ok (.iconst 1, 1) := by decide +kernel
theorem dX10_takesE_59 : decode cX10_takesE 59 = .ok (.iadd, 1) := by decide +kernel
theorem dX10_takesE_60 : decode cX10_takesE 60 = .ok (.putfield 77, 3) := by decide +kernel
theorem dX10_takesE_63 : decode cX10_takesE 63 = .ok (.aload_n 0, 1) := by decide +kernel
theorem dX10_takesE_64 : decode cX10_takesE 64 = .ok (.getfield 68, 3) := by decide +kernel
theorem dX10_takesE_67 : decode cX10_takesE 67 = .ok (.aload_n 0, 1) := by decide +kernel
theorem dX10_takesE_68 : decode cX10_takesE 68 = .ok (.getfield 74, 3) := by decide +kernel
theorem dX10_takesE_71 : decode cX10_takesE 71 = .ok (.iload_n 3, 1) := by decide +kernel
theorem dX10_takesE_72 : decode cX10_takesE 72 = .ok (.iastore, 1) := by decide +kernel
theorem dX10_takesE_73 : decode cX10_takesE 73 = .ok (.aload_n 0, 1) := by decide +kernel
theorem dX10_takesE_74 : decode cX10_takesE 74 = .ok (.dup, 1) := by decide +kernel
theorem dX10_takesE_75 : decode cX10_takesE 75 = .ok (.getfield 74, 3) := by decide +kernel
theorem dX10_takesE_78 : decode cX10_takesE 78 = .ok (.iconst 1, 1) := by decide +kernel
theorem dX10_takesE_79 : decode cX10_takesE 79 = .ok (.iadd, 1) := by decide +kernel
theorem dX10_takesE_80 : decode cX10_takesE 80 = .ok (.putfield 74, 3) := by decide +kernel
theorem dX10_takesE_83 : decode cX10_takesE 83 = .ok (.aload_n 0, 1) := by decide +kernel
theorem dX10_takesE_84 : decode cX10_takesE 84 = .ok (.dup, 1) := by decide +kernel
theorem dX10_takesE_85 : decode cX10_takesE 85 = .ok (.getfield 41, 3) := by decide +kernel
theorem dX10_takesE_88 : decode cX10_takesE 88 = .ok (.iconst 1, 1) := by decide +kernel
theorem dX10_takesE_89 : decode cX10_takesE 89 = .ok (.iadd, 1) := by decide +kernel
theorem dX10_takesE_90 : decode cX10_takesE 90 = .ok (.putfield 41, 3) := by decide +kernel
theorem dX10_takesE_93 : decode cX10_takesE 93 = .ok (.goto (-71), 3) := by decide +kernel
theorem dX10_takesE_96 : decode cX10_takesE 96 = .ok (.aload_n 0, 1) := by decide +kernel
theorem dX10_takesE_97 : decode cX10_takesE 97 = .ok (.invokevirtual 213, 3) := by decide +kernel
theorem dX10_takesE_100 : decode cX10_takesE 100 = .ok (.ifCond .eq 8, 3) := by decide +kernel
theorem dX10_takesE_103 : decode cX10_takesE 103 = .ok (.iconst 0, 1) := by decide +kernel
theorem dX10_takesE_104 : decode cX10_takesE 104 = .ok (.istore_n 2, 1) := by decide +kernel
theorem dX10_takesE_105 : decode cX10_takesE 105 = .ok (.goto (-83), 3) := by decide +kernel
theorem dX10_takesE_108 : decode cX10_takesE 108 = .ok (.iconst 0, 1) := by decide +kernel
theorem dX10_takesE_109 : decode cX10_takesE 109 = .ok (.ireturn, 1) := by decide +kernel
theorem dX10_takesE_110 : decode cX10_takesE 110 = .ok (.iload_n 3, 1) := by decide +kernel
theorem dX10_takesE_111 : decode cX10_takesE 111 = .ok (.bipush 38, 2) := by decide +kernel
theorem dX10_takesE_113 : decode cX10_takesE 113 = .ok (.if_icmp .eq 9, 3) := by decide +kernel
theorem dX10_takesE_116 : decode cX10_takesE 116 = .ok (.iload_n 3, 1) := by decide +kernel
theorem dX10_takesE_117 : decode cX10_takesE 117 = .ok (.bipush 124, 2) := by decide +kernel
theorem dX10_takesE_119 : decode cX10_takesE 119 = .ok (.if_icmp .ne 43, 3) := by decide +kernel
theorem dX10_takesE_122 : decode cX10_takesE 122 = .ok (.aload_n 0, 1) := by decide +kernel
theorem dX10_takesE_123 : decode cX10_takesE 123 = .ok (.iload_n 3, 1) := by decide +kernel
theorem dX10_takesE_124 : decode cX10_takesE 124 = .ok (.invokevirtual 216, 3) := by decide +kernel
theorem dX10_takesE_127 : decode cX10_takesE 127 = .ok (.aload_n 0, 1) := by decide +kernel
theorem dX10_takesE_128 : decode cX10_takesE 128 = .ok (.getfield 68, 3) := by decide +kernel
theorem dX10_takesE_131 : decode cX10_takesE 131 = .ok (.aload_n 0, 1) := by decide +kernel
theorem dX10_takesE_132 : decode cX10_takesE 132 = .ok (.getfield 74, 3) := by decide +kernel
theorem dX10_takesE_135 : decode cX10_takesE 135 = .ok (.iload_n 3, 1) := by decide +kernel
theorem dX10_takesE_136 : decode cX10_takesE 136 = .ok (.iastore, 1) := by decide +kernel
theorem dX10_takesE_137 : decode cX10_takesE 137 = .ok (.aload_n 0, 1) := by decide +kernel
theorem dX10_takesE_138 : decode cX10_takesE 138 = .ok (.dup, 1) := by decide +kernel
theorem dX10_takesE_139 : decode cX10_takesE 139 = .ok (.getfield 74, 3) := by decide +kernel
theorem dX10_takesE_142 : decode cX10_takesE 142 = .ok (.iconst 1, 1) := by decide +kernel
theorem dX10_takesE_143 : decode cX10_takesE 143 = .ok (.iadd, 1) := by decide +kernel
theorem dX10_takesE_144 : decode cX10_takesE 144 = .ok (.putfield 74, 3) := by decide +kernel
theorem dX10_takesE_147 : decode cX10_takesE 147 = .ok (.iconst 1, 1) := by decide +kernel
theorem dX10_takesE_148 : decode cX10_takesE 148 = .ok (.istore_n 2, 1) := by decide +kernel
theorem dX10_takesE_149 : decode cX10_takesE 149 = .ok (.aload_n 0, 1) := by decide +kernel
theorem dX10_takesE_150 : decode cX10_takesE 150 = .ok (.dup, 1) := by decide +kernel
theorem dX10_takesE_151 : decode cX10_takesE 151 = .ok (.getfield 41, 3) := by decide +kernel
theorem dX10_takesE_154 : decode cX10_takesE 154 = .ok (.iconst 1, 1) := by decide +kernel
theorem dX10_takesE_155 : decode cX10_takesE 155 = .ok (.iadd, 1) := by decide +kernel
theorem dX10_takesE_156 : decode cX10_takesE 156 = .ok (.putfield 41, 3) := by decide +kernel
theorem dX10_takesE_159 : decode cX10_takesE 159 = .ok (.goto (-137), 3) := by decide +kernel
theorem dX10_takesE_162 : decode cX10_takesE 162 = .ok (.aload_n 0, 1) := by decide +kernel
theorem dX10_takesE_163 : decode cX10_takesE 163 = .ok (.bipush 124, 2) := by decide +kernel
theorem dX10_takesE_165 : decode cX10_takesE 165 = .ok (.invokevirtual 216, 3) := by decide +kernel
theorem dX10_takesE_168 : decode cX10_takesE 168 = .ok (.aload_n 0, 1) := by decide +kernel
theorem dX10_takesE_169 : decode cX10_takesE 169 = .ok (.getfield 62, 3) := by decide +kernel
theorem dX10_takesE_172 : decode cX10_takesE 172 = .ok (.iload_n 1, 1) := by decide +kernel
theorem dX10_takesE_173 : decode cX10_takesE 173 = .ok (.aload_n 0, 1) := by decide +kernel
theorem dX10_takesE_174 : decode cX10_takesE 174 = .ok (.getfield 71, 3) := by decide +kernel
theorem dX10_takesE_177 : decode cX10_takesE 177 = .ok (.iastore, 1) := by decide +kernel
theorem dX10_takesE_178 : decode cX10_takesE 178 = .ok (.aload_n 0, 1) := by decide +kernel
theorem dX10_takesE_179 : decode cX10_takesE 179 = .ok (.getfield 74, 3) := by decide +kernel
theorem dX10_takesE_182 : decode cX10_takesE 182 = .ok (.ifCond .ne 5, 3) := by decide +kernel
theorem dX10_takesE_185 : decode cX10_takesE 185 = .ok (.iconst 1, 1) := by decide +kernel
theorem dX10_takesE_186 : decode cX10_takesE 186 = .ok (.ireturn, 1) := by decide +kernel
theorem dX10_takesE_187 : decode cX10_takesE 187 = .ok (.iload_n 3, 1) := by decide +kernel
theorem dX10_takesE_188 : decode cX10_takesE 188 = .ok (.bipush 41, 2) := by decide +kernel
theorem dX10_takesE_190 : decode cX10_takesE 190 = .ok (.if_icmp .eq 5, 3) := by decide +kernel
theorem dX10_takesE_193 : decode cX10_takesE 193 = .ok (.iconst 0, 1) := by decide +kernel
theorem dX10_takesE_194 : decode cX10_takesE 194 = .ok (.ireturn, 1) := by decide +kernel
theorem dX10_takesE_195 : decode cX10_takesE 195 = .ok (.aload_n 0, 1) := by decide +kernel
theorem dX10_takesE_196 : decode cX10_takesE 196 = .ok (.dup, 1) := by decide +kernel
theorem dX10_takesE_197 : decode cX10_takesE 197 = .ok (.getfield 74, 3) := by decide +kernel
theorem dX10_takesE_200 : decode cX10_takesE 200 = .ok (.iconst 1, 1) := by decide +kernel
theorem dX10_takesE_201 : decode cX10_takesE 201 = .ok (.isub, 1) := by decide +kernel
theorem dX10_takesE_202 : decode cX10_takesE 202 = .ok (.putfield 74, 3) := by decide +kernel
theorem dX10_takesE_205 : decode cX10_takesE 205 = .ok (.aload_n 0, 1) := by decide +kernel
theorem dX10_takesE_206 : decode cX10_takesE 206 = .ok (.dup, 1) := by decide +kernel
theorem dX10_takesE_207 : decode cX10_takesE 207 = .ok (.getfield 77, 3) := by decide +kernel
theorem dX10_takesE_210 : decode cX10_takesE 210 = .ok (.iconst 1, 1) := by decide +kernel
theorem dX10_takesE_211 : decode cX10_takesE 211 = .ok (.isub, 1) := by decide +kernel
theorem dX10_takesE_212 : decode cX10_takesE 212 = .ok (.putfield 77, 3) := by decide +kernel
theorem dX10_takesE_215 : decode cX10_takesE 215 = .ok (.aload_n 0, 1) := by decide +kernel
theorem dX10_takesE_216 : decode cX10_takesE 216 = .ok (.dup, 1) := by decide +kernel
theorem dX10_takesE_217 : decode cX10_takesE 217 = .ok (.getfield 41, 3) := by decide +kernel
theorem dX10_takesE_220 : decode cX10_takesE 220 = .ok (.iconst 1, 1) := by decide +kernel
theorem dX10_takesE_221 : decode cX10_takesE 221 = .ok (.iadd, 1) := by decide +kernel
theorem dX10_takesE_222 : decode cX10_takesE 222 = .ok (.putfield 41, 3) := by decide +kernel
theorem dX10_takesE_225 : decode cX10_takesE 225 = .ok (.aload_n 0, 1) := by decide +kernel
theorem dX10_takesE_226 : decode cX10_takesE 226 = .ok (.invokevirtual 210, 3) := by decide +kernel
theorem dX10_takesE_229 : decode cX10_takesE 229 = .ok (.goto (-207), 3) := by decide +kernel
theorem dX10_takesHead_0 : decode cX10_takesHead 0 = .ok (.aload_n 0, 1) := by decide +kernel
theorem dX10_takesHead_1 : decode cX10_takesHead 1 = .ok (.invokevirtual 219, 3) := by decide +kernel
theorem dX10_takesHead_4 : decode cX10_takesHead 4 = .ok (.istore_n 2, 1) := by decide +kernel
theorem dX10_takesHead_5 : decode cX10_takesHead 5 = .ok (.aload_n 0, 1) := by decide +kernel
theorem dX10_takesHead_6 : decode cX10_takesHead 6 = .ok (.invokevirtual 188, 3) := by decide +kernel
theorem dX10_takesHead_9 : decode cX10_takesHead 9 = .ok (.lookupswitch 56 #[(98, 41), (111, 27)], 27) := by decide +kernel
theorem dX10_takesHead_36 : decode cX10_takesHead 36 = .ok (.aload_n 0, 1) := by decide +kernel
theorem dX10_takesHead_37 : decode cX10_takesHead 37 = .ok (.getfield 53, 3) := by decide +kernel
theorem dX10_takesHead_40 : decode cX10_takesHead 40 = .ok (.iload_n 1, 1) := by decide +kernel
theorem dX10_takesHead_41 : decode cX10_takesHead 41 = .ok (.iconst 1, 1) := by decide +kernel
theorem dX10_takesHead_42 : decode cX10_takesHead 42 = .ok (.iastore, 1) := by decide +kernel
theorem dX10_takesHead_43 : decode cX10_takesHead 43 = .ok (.aload_n 0, 1) := by decide +kernel
theorem dX10_takesHead_44 : decode cX10_takesHead 44 = .ok (.iconst 3, 1) := by decide +kernel
theorem dX10_takesHead_45 : decode cX10_takesHead 45 = .ok (.iconst 4, 1) := by decide +kernel
theorem dX10_takesHead_46 : decode cX10_takesHead 46 = .ok (.invokevirtual 222, 3) := by decide +kernel
theorem dX10_takesHead_49 : decode cX10_takesHead 49 = .ok (.ireturn, 1) := by decide +kernel
theorem dX10_takesHead_50 : decode cX10_takesHead 50 = .ok (.aload_n 0, 1) := by decide +kernel
theorem dX10_takesHead_51 : decode cX10_takesHead 51 = .ok (.getfield 53, 3) := by decide +kernel
theorem dX10_takesHead_54 : decode cX10_takesHead 54 = .ok (.iload_n 1, 1) := by decide +kernel
theorem dX10_takesHead_55 : decode cX10_takesHead 55 = .ok (.iconst 2, 1) := by decide +kernel
theorem dX10_takesHead_56 : decode cX10_takesHead 56 = .ok (.iastore, 1) := by decide +kernel
theorem dX10_takesHead_57 : decode cX10_takesHead 57 = .ok (.aload_n 0, 1) := by decide +kernel
theorem dX10_takesHead_58 : decode cX10_takesHead 58 = .ok (.bipush 7, 2) := by decide +kernel
theorem dX10_takesHead_60 : decode cX10_takesHead 60 = .ok (.iconst 4, 1) := by decide +kernel
theorem dX10_takesHead_61 : decode cX10_takesHead 61 = .ok (.invokevirtual 222, 3) := by decide +kernel
theorem dX10_takesHead_64 : decode cX10_takesHead 64 = .ok (.ireturn, 1) := by decide +kernel
theorem dX10_takesHead_65 : decode cX10_takesHead 65 = .ok (.aload_n 0, 1) := by decide +kernel
theorem dX10_takesHead_66 : decode cX10_takesHead 66 = .ok (.getfield 53, 3) := by decide +kernel
theorem dX10_takesHead_69 : decode cX10_takesHead 69 = .ok (.iload_n 1, 1) := by decide +kernel
theorem dX10_takesHead_70 : decode cX10_takesHead 70 = .ok (.iload_n 2, 1) := by decide +kernel
theorem dX10_takesHead_71 : decode cX10_takesHead 71 = .ok (.bipush 111, 2) := by decide +kernel
theorem dX10_takesHead_73 : decode cX10_takesHead 73 = .ok (.if_icmp .ne 7, 3) := by decide +kernel
theorem dX10_takesHead_76 : decode cX10_takesHead 76 = .ok (.iconst 3, 1) := by decide +kernel
theorem dX10_takesHead_77 : decode cX10_takesHead 77 = .ok (.goto 4, 3) := by decide +kernel
theorem dX10_takesHead_80 : decode cX10_takesHead 80 = .ok (.iconst 0, 1) := by decide +kernel
theorem dX10_takesHead_81 : decode cX10_takesHead 81 = .ok (.iastore, 1) := by decide +kernel
theorem dX10_takesHead_82 : decode cX10_takesHead 82 = .ok (.iload_n 2, 1) := by decide +kernel
theorem dX10_takesHead_83 : decode cX10_takesHead 83 = .ok (.bipush 111, 2) := by decide +kernel
theorem dX10_takesHead_85 : decode cX10_takesHead 85 = .ok (.if_icmp .ne 14, 3) := by decide +kernel
theorem dX10_takesHead_88 : decode cX10_takesHead 88 = .ok (.aload_n 0, 1) := by decide +kernel
theorem dX10_takesHead_89 : decode cX10_takesHead 89 = .ok (.bipush 11, 2) := by decide +kernel
theorem dX10_takesHead_91 : decode cX10_takesHead 91 = .ok (.bipush 7, 2) := by decide +kernel
theorem dX10_takesHead_93 : decode cX10_takesHead 93 = .ok (.invokevirtual 222, 3) := by decide +kernel
theorem dX10_takesHead_96 : decode cX10_takesHead 96 = .ok (.goto 9, 3) := by decide +kernel
theorem dX10_takesHead_99 : decode cX10_takesHead 99 = .ok (.aload_n 0, 1) := by decide +kernel
theorem dX10_takesHead_100 : decode cX10_takesHead 100 = .ok (.iconst 0, 1) := by decide +kernel
theorem dX10_takesHead_101 : decode cX10_takesHead 101 = .ok (.iconst 3, 1) := by decide +kernel
theorem dX10_takesHead_102 : decode cX10_takesHead 102 = .ok (.invokevirtual 222, 3) := by decide +kernel
theorem dX10_takesHead_105 : decode cX10_takesHead 105 = .ok (.ireturn, 1) := by decide +kernel
theorem dX10_takesClause_0 : decode cX10_takesClause 0 = .ok (.aload_n 0, 1) := by decide +kernel
theorem dX10_takesClause_1 : decode cX10_takesClause 1 = .ok (.iload_n 1, 1) := by decide +kernel
theorem dX10_takesClause_2 : decode cX10_takesClause 2 = .ok (.invokevirtual 226, 3) := by decide +kernel
theorem dX10_takesClause_5 : decode cX10_takesClause 5 = .ok (.ifCond .eq 10, 3) := by decide +kernel
theorem dX10_takesClause_8 : decode cX10_takesClause 8 = .ok (.aload_n 0, 1) := by decide +kernel
theorem dX10_takesClause_9 : decode cX10_takesClause 9 = .ok (.invokevirtual 207, 3) := by decide +kernel
theorem dX10_takesClause_12 : decode cX10_takesClause 12 = .ok (.ifCond .ne 5, 3) := by decide +kernel
theorem dX10_takesClause_15 : decode cX10_takesClause 15 = .ok (.iconst 0, 1) := by decide +kernel
theorem dX10_takesClause_16 : decode cX10_takesClause 16 = .ok (.ireturn, 1) := by decide +kernel
theorem dX10_takesClause_17 : decode cX10_takesClause 17 = .ok (.aload_n 0, 1) := by decide +kernel
theorem dX10_takesClause_18 : decode cX10_takesClause 18 = .ok (.getfield 56, 3) := by decide +kernel
theorem dX10_takesClause_21 : decode cX10_takesClause 21 = .ok (.iload_n 1, 1) := by decide +kernel
theorem dX10_takesClause_22 : decode cX10_takesClause 22 = .ok (.aload_n 0, 1) := by decide +kernel
theorem dX10_takesClause_23 : decode cX10_takesClause 23 = .ok (.getfield 44, 3) := by decide +kernel
theorem dX10_takesClause_26 : decode cX10_takesClause 26 = .ok (.iastore, 1) := by decide +kernel
theorem dX10_takesClause_27 : decode cX10_takesClause 27 = .ok (.aload_n 0, 1) := by decide +kernel
theorem dX10_takesClause_28 : decode cX10_takesClause 28 = .ok (.getfield 53, 3) := by decide +kernel
theorem dX10_takesClause_31 : decode cX10_takesClause 31 = .ok (.iload_n 1, 1) := by decide +kernel
theorem dX10_takesClause_32 : decode cX10_takesClause 32 = .ok (.iaload, 1) := by decide +kernel
theorem dX10_takesClause_33 : decode cX10_takesClause 33 = .ok (.ifCond .eq 30, 3) := by decide +kernel
theorem dX10_takesClause_36 : decode cX10_takesClause 36 = .ok (.aload_n 0, 1) := by decide +kernel
theorem dX10_takesClause_37 : decode cX10_takesClause 37 = .ok (.getfield 53, 3) := by decide +kernel
theorem dX10_takesClause_40 : decode cX10_takesClause 40 = .ok (.iload_n 1, 1) := by decide +kernel
theorem dX10_takesClause_41 : decode cX10_takesClause 41 = .ok (.iaload, 1) := by decide +kernel
theorem dX10_takesClause_42 : decode cX10_takesClause 42 = .ok (.iconst 3, 1) := by decide +kernel
theorem dX10_takesClause_43 : decode cX10_takesClause 43 = .ok (.if_icmp .eq 20, 3) := by decide +kernel
theorem dX10_takesClause_46 : decode cX10_takesClause 46 = .ok (.aload_n 0, 1) := by decide +kernel
theorem dX10_takesClause_47 : decode cX10_takesClause 47 = .ok (.bipush 32, 2) := by decide +kernel
theorem dX10_takesClause_49 : decode cX10_takesClause 49 = .ok (.invokevirtual 192, 3) := by decide +kernel
theorem dX10_takesClause_52 : decode cX10_takesClause 52 = .ok (.ifCond .eq 15, 3) := by decide +kernel
theorem dX10_takesClause_55 : decode cX10_takesClause 55 = .ok (.aload_n 0, 1) := by decide +kernel
theorem dX10_takesClause_56 : decode cX10_takesClause 56 = .ok (.iload_n 1, 1) := by decide +kernel
theorem dX10_takesClause_57 : decode cX10_takesClause 57 = .ok (.invokevirtual 229, 3) := by decide +kernel
theorem dX10_takesClause_60 : decode cX10_takesClause 60 = .ok (.ifCond .eq 7, 3) := by decide +kernel
theorem dX10_takesClause_63 : decode cX10_takesClause 63 = .ok (.iconst 1, 1) := by decide +kernel
theorem dX10_takesClause_64 : decode cX10_takesClause 64 = .ok (.goto 4, 3) := by decide +kernel
theorem dX10_takesClause_67 : decode cX10_takesClause 67 = .ok (.iconst 0, 1) := by decide +kernel
theorem dX10_takesClause_68 : decode cX10_takesClause 68 = .ok (.ireturn, 1) := by decide +kernel
theorem dX10_goesText_0 : decode cX10_goesText 0 = .ok (.aload_n 0, 1) := by decide +kernel
theorem dX10_goesText_1 : decode cX10_goesText 1 = .ok (.iconst 0, 1) := by decide +kernel
theorem dX10_goesText_2 : decode cX10_goesText 2 = .ok (.putfield 41, 3) := by decide +kernel
theorem dX10_goesText_5 : decode cX10_goesText 5 = .ok (.aload_n 0, 1) := by decide +kernel
theorem dX10_goesText_6 : decode cX10_goesText 6 = .ok (.bipush 100, 2) := by decide +kernel
theorem dX10_goesText_8 : decode cX10_goesText 8 = .ok (.iload_n 1, 1) := by decide +kernel
theorem dX10_goesText_9 : decode cX10_goesText 9 = .ok (.imul, 1) := by decide +kernel
theorem dX10_goesText_10 : decode cX10_goesText 10 = .ok (.putfield 71, 3) := by decide +kernel
theorem dX10_goesText_13 : decode cX10_goesText 13 = .ok (.iconst 0, 1) := by decide +kernel
theorem dX10_goesText_14 : decode cX10_goesText 14 = .ok (.istore_n 2, 1) := by decide +kernel
theorem dX10_goesText_15 : decode cX10_goesText 15 = .ok (.aload_n 0, 1) := by decide +kernel
theorem dX10_goesText_16 : decode cX10_goesText 16 = .ok (.bipush 10, 2) := by decide +kernel
theorem dX10_goesText_18 : decode cX10_goesText 18 = .ok (.iload_n 1, 1) := by decide +kernel
theorem dX10_goesText_19 : decode cX10_goesText 19 = .ok (.imul, 1) := by decide +kernel
theorem dX10_goesText_20 : decode cX10_goesText 20 = .ok (.iload_n 2, 1) := by decide +kernel
theorem dX10_goesText_21 : decode cX10_goesText 21 = .ok (.iadd, 1) := by decide +kernel
theorem dX10_goesText_22 : decode cX10_goesText 22 = .ok (.invokevirtual 232, 3) := by decide +kernel
theorem dX10_goesText_25 : decode cX10_goesText 25 = .ok (.ifCond .ne 5, 3) := by decide +kernel
theorem dX10_goesText_28 : decode cX10_goesText 28 = .ok (.iconst 0, 1) := by decide +kernel
theorem dX10_goesText_29 : decode cX10_goesText 29 = .ok (.ireturn, 1) := by decide +kernel
theorem dX10_goesText_30 : decode cX10_goesText 30 = .ok (.iinc 2 1, 3) := by decide +kernel
theorem dX10_goesText_33 : decode cX10_goesText 33 = .ok (.aload_n 0, 1) := by decide +kernel
theorem dX10_goesText_34 : decode cX10_goesText 34 = .ok (.getfield 50, 3) := by decide +kernel
theorem dX10_goesText_37 : decode cX10_goesText 37 = .ok (.iload_n 1, 1) := by decide +kernel
theorem dX10_goesText_38 : decode cX10_goesText 38 = .ok (.iload_n 2, 1) := by decide +kernel
theorem dX10_goesText_39 : decode cX10_goesText 39 = .ok (.iastore, 1) := by decide +kernel
theorem dX10_goesText_40 : decode cX10_goesText 40 = .ok (.aload_n 0, 1) := by decide +kernel
theorem dX10_goesText_41 : decode cX10_goesText 41 = .ok (.getfield 41, 3) := by decide +kernel
theorem dX10_goesText_44 : decode cX10_goesText 44 = .ok (.aload_n 0, 1) := by decide +kernel
theorem dX10_goesText_45 : decode cX10_goesText 45 = .ok (.getfield 38, 3) := by decide +kernel
theorem dX10_goesText_48 : decode cX10_goesText 48 = .ok (.if_icmp .ne 5, 3) := by decide +kernel
theorem dX10_goesText_51 : decode cX10_goesText 51 = .ok (.iconst 1, 1) := by decide +kernel
theorem dX10_goesText_52 : decode cX10_goesText 52 = .ok (.ireturn, 1) := by decide +kernel
theorem dX10_goesText_53 : decode cX10_goesText 53 = .ok (.iload_n 2, 1) := by decide +kernel
theorem dX10_goesText_54 : decode cX10_goesText 54 = .ok (.bipush 10, 2) := by decide +kernel
theorem dX10_goesText_56 : decode cX10_goesText 56 = .ok (.if_icmp .eq 12, 3) := by decide +kernel
theorem dX10_goesText_59 : decode cX10_goesText 59 = .ok (.aload_n 0, 1) := by decide +kernel
theorem dX10_goesText_60 : decode cX10_goesText 60 = .ok (.bipush 59, 2) := by decide +kernel
theorem dX10_goesText_62 : decode cX10_goesText 62 = .ok (.invokevirtual 192, 3) := by decide +kernel
theorem dX10_goesText_65 : decode cX10_goesText 65 = .ok (.ifCond .ne (-50), 3) := by decide +kernel
theorem dX10_goesText_68 : decode cX10_goesText 68 = .ok (.iconst 0, 1) := by decide +kernel
theorem dX10_goesText_69 : decode cX10_goesText 69 = .ok (.ireturn, 1) := by decide +kernel
theorem dX10_village_0 : decode cX10_village 0 = .ok (.aload_n 0, 1) := by decide +kernel
theorem dX10_village_1 : decode cX10_village 1 = .ok (.getfield 32, 3) := by decide +kernel
theorem dX10_village_4 : decode cX10_village 4 = .ok (.bipush 6, 2) := by decide +kernel
theorem dX10_village_6 : decode cX10_village 6 = .ok (.if_icmp .ne 6, 3) := by decide +kernel
theorem dX10_village_9 : decode cX10_village 9 = .ok (.bipush (-4), 2) := by decide +kernel
theorem dX10_village_11 : decode cX10_village 11 = .ok (.ireturn, 1) := by decide +kernel
theorem dX10_village_12 : decode cX10_village 12 = .ok (.aload_n 0, 1) := by decide +kernel
theorem dX10_village_13 : decode cX10_village 13 = .ok (.aload_n 0, 1) := by decide +kernel
theorem dX10_village_14 : decode cX10_village 14 = .ok (.getfield 32, 3) := by decide +kernel
theorem dX10_village_17 : decode cX10_village 17 = .ok (.invokevirtual 235, 3) := by decide +kernel
theorem dX10_village_20 : decode cX10_village 20 = .ok (.istore_n 1, 1) := by decide +kernel
theorem dX10_village_21 : decode cX10_village 21 = .ok (.aload_n 0, 1) := by decide +kernel
theorem dX10_village_22 : decode cX10_village 22 = .ok (.iconst 0, 1) := by decide +kernel
theorem dX10_village_23 : decode cX10_village 23 = .ok (.putfield 38, 3) := by decide +kernel
theorem dX10_village_26 : decode cX10_village 26 = .ok (.iload_n 1, 1) := by decide +kernel
theorem dX10_village_27 : decode cX10_village 27 = .ok (.ifCond .ne 11, 3) := by decide +kernel
theorem dX10_village_30 : decode cX10_village 30 = .ok (.bipush (-10), 2) := by decide +kernel
theorem dX10_village_32 : decode cX10_village 32 = .ok (.aload_n 0, 1) := by decide +kernel
theorem dX10_village_33 : decode cX10_village 33 = .ok (.getfield 41, 3) := by decide +kernel
theorem dX10_village_36 : decode cX10_village 36 = .ok (.isub, 1) := by decide +kernel
theorem dX10_village_37 : decode cX10_village 37 = .ok (.ireturn, 1) := by decide +kernel
theorem dX10_village_38 : decode cX10_village 38 = .ok (.aload_n 0, 1) := by decide +kernel
theorem dX10_village_39 : decode cX10_village 39 = .ok (.aload_n 0, 1) := by decide +kernel
theorem dX10_village_40 : decode cX10_village 40 = .ok (.getfield 32, 3) := by decide +kernel
theorem dX10_village_43 : decode cX10_village 43 = .ok (.putfield 35, 3) := by decide +kernel
theorem dX10_village_46 : decode cX10_village 46 = .ok (.aload_n 0, 1) := by decide +kernel
theorem dX10_village_47 : decode cX10_village 47 = .ok (.dup, 1) := by decide +kernel
theorem dX10_village_48 : decode cX10_village 48 = .ok (.getfield 32, 3) := by decide +kernel
theorem dX10_village_51 : decode cX10_village 51 = .ok (.iconst 1, 1) := by decide +kernel
theorem dX10_village_52 : decode cX10_village 52 = .ok (.iadd, 1) := by decide +kernel
theorem dX10_village_53 : decode cX10_village 53 = .ok (.putfield 32, 3) := by decide +kernel
theorem dX10_village_56 : decode cX10_village 56 = .ok (.aload_n 0, 1) := by decide +kernel
theorem dX10_village_57 : decode cX10_village 57 = .ok (.getfield 35, 3) := by decide +kernel
theorem dX10_village_60 : decode cX10_village 60 = .ok (.ireturn, 1) := by decide +kernel
theorem dX10_begin_0 : decode cX10_begin 0 = .ok (.aload_n 0, 1) := by decide +kernel
theorem dX10_begin_1 : decode cX10_begin 1 = .ok (.getfield 35, 3) := by decide +kernel
theorem dX10_begin_4 : decode cX10_begin 4 = .ok (.ifCond .ge 7, 3) := by decide +kernel
theorem dX10_begin_7 : decode cX10_begin 7 = .ok (.iconst 0, 1) := by decide +kernel
theorem dX10_begin_8 : decode cX10_begin 8 = .ok (.goto 10, 3) := by decide +kernel
theorem dX10_begin_11 : decode cX10_begin 11 = .ok (.bipush 10, 2) := by decide +kernel
theorem dX10_begin_13 : decode cX10_begin 13 = .ok (.aload_n 0, 1) := by decide +kernel
theorem dX10_begin_14 : decode cX10_begin 14 = .ok (.getfield 35, 3) := by decide +kernel
theorem dX10_begin_17 : decode cX10_begin 17 = .ok (.imul, 1) := by decide +kernel
theorem dX10_begin_18 : decode cX10_begin 18 = .ok (.ireturn, 1) := by decide +kernel
theorem dX10_behind_0 : decode cX10_behind 0 = .ok (.aload_n 0, 1) := by decide +kernel
theorem dX10_behind_1 : decode cX10_behind 1 = .ok (.getfield 35, 3) := by decide +kernel
theorem dX10_behind_4 : decode cX10_behind 4 = .ok (.ifCond .ge 7, 3) := by decide +kernel
theorem dX10_behind_7 : decode cX10_behind 7 = .ok (.iconst 0, 1) := by decide +kernel
theorem dX10_behind_8 : decode cX10_behind 8 = .ok (.goto 20, 3) := by decide +kernel
theorem dX10_behind_11 : decode cX10_behind 11 = .ok (.bipush 10, 2) := by decide +kernel
theorem dX10_behind_13 : decode cX10_behind 13 = .ok (.aload_n 0, 1) := by decide +kernel
theorem dX10_behind_14 : decode cX10_behind 14 = .ok (.getfield 35, 3) := by decide +kernel
theorem dX10_behind_17 : decode cX10_behind 17 = .ok (.imul, 1) := by decide +kernel
theorem dX10_behind_18 : decode cX10_behind 18 = .ok (.aload_n 0, 1) := by decide +kernel
theorem dX10_behind_19 : decode cX10_behind 19 = .ok (.getfield 50, 3) := by decide +kernel
theorem dX10_behind_22 : decode cX10_behind 22 = .ok (.aload_n 0, 1) := by decide +kernel
theorem dX10_behind_23 : decode cX10_behind 23 = .ok (.getfield 35, 3) := by decide +kernel
theorem dX10_behind_26 : decode cX10_behind 26 = .ok (.iaload, 1) := by decide +kernel
theorem dX10_behind_27 : decode cX10_behind 27 = .ok (.iadd, 1) := by decide +kernel
theorem dX10_behind_28 : decode cX10_behind 28 = .ok (.ireturn, 1) := by decide +kernel
theorem dX10_lastOf_0 : decode cX10_lastOf 0 = .ok (.iload_n 2, 1) := by decide +kernel
theorem dX10_lastOf_1 : decode cX10_lastOf 1 = .ok (.istore_n 3, 1) := by decide +kernel
theorem dX10_lastOf_2 : decode cX10_lastOf 2 = .ok (.aload_n 0, 1) := by decide +kernel
theorem dX10_lastOf_3 : decode cX10_lastOf 3 = .ok (.invokevirtual 238, 3) := by decide +kernel
theorem dX10_lastOf_6 : decode cX10_lastOf 6 = .ok (.istore 4, 2) := by decide +kernel
theorem dX10_lastOf_8 : decode cX10_lastOf 8 = .ok (.iload 4, 2) := by decide +kernel
theorem dX10_lastOf_10 : decode cX10_lastOf 10 = .ok (.aload_n 0, 1) := by decide +kernel
theorem dX10_lastOf_11 : decode cX10_lastOf 11 = .ok (.invokevirtual 241, 3) := by decide +kernel
theorem dX10_lastOf_14 : decode cX10_lastOf 14 = .ok (.if_icmp .ge 32, 3) := by decide +kernel
theorem dX10_lastOf_17 : decode cX10_lastOf 17 = .ok (.aload_n 0, 1) := by decide +kernel
theorem dX10_lastOf_18 : decode cX10_lastOf 18 = .ok (.getfield 53, 3) := by decide +kernel
theorem dX10_lastOf_21 : decode cX10_lastOf 21 = .ok (.iload 4, 2) := by decide +kernel
theorem dX10_lastOf_23 : decode cX10_lastOf 23 = .ok (.iaload, 1) := by decide +kernel
theorem dX10_lastOf_24 : decode cX10_lastOf 24 = .ok (.iload_n 1, 1) := by decide +kernel
theorem dX10_lastOf_25 : decode cX10_lastOf 25 = .ok (.if_icmp .ne 13, 3) := by decide +kernel
theorem dX10_lastOf_28 : decode cX10_lastOf 28 = .ok (.aload_n 0, 1) := by decide +kernel
theorem dX10_lastOf_29 : decode cX10_lastOf 29 = .ok (.getfield 56, 3) := by decide +kernel
theorem dX10_lastOf_32 : decode cX10_lastOf 32 = .ok (.iload 4, 2) := by decide +kernel
theorem dX10_lastOf_34 : decode cX10_lastOf 34 = .ok (.iaload, 1) := by decide +kernel
theorem dX10_lastOf_35 : decode cX10_lastOf 35 = .ok (.goto 4, 3) := by decide +kernel
theorem dX10_lastOf_38 : decode cX10_lastOf 38 = .ok (.iload_n 3, 1) := by decide +kernel
theorem dX10_lastOf_39 : decode cX10_lastOf 39 = .ok (.istore_n 3, 1) := by decide +kernel
theorem dX10_lastOf_40 : decode cX10_lastOf 40 = .ok (.iinc 4 1, 3) := by decide +kernel
theorem dX10_lastOf_43 : decode cX10_lastOf 43 = .ok (.goto (-35), 3) := by decide +kernel
theorem dX10_lastOf_46 : decode cX10_lastOf 46 = .ok (.iload_n 3, 1) := by decide +kernel
theorem dX10_lastOf_47 : decode cX10_lastOf 47 = .ok (.ireturn, 1) := by decide +kernel
theorem dX10_shares_0 : decode cX10_shares 0 = .ok (.aload_n 0, 1) := by decide +kernel
theorem dX10_shares_1 : decode cX10_shares 1 = .ok (.iconst 0, 1) := by decide +kernel
theorem dX10_shares_2 : decode cX10_shares 2 = .ok (.iconst 3, 1) := by decide +kernel
theorem dX10_shares_3 : decode cX10_shares 3 = .ok (.invokevirtual 244, 3) := by decide +kernel
theorem dX10_shares_6 : decode cX10_shares 6 = .ok (.istore_n 1, 1) := by decide +kernel
theorem dX10_shares_7 : decode cX10_shares 7 = .ok (.iload_n 1, 1) := by decide +kernel
theorem dX10_shares_8 : decode cX10_shares 8 = .ok (.iconst 2, 1) := by decide +kernel
theorem dX10_shares_9 : decode cX10_shares 9 = .ok (.if_icmp .ge 7, 3) := by decide +kernel
theorem dX10_shares_12 : decode cX10_shares 12 = .ok (.iconst 2, 1) := by decide +kernel
theorem dX10_shares_13 : decode cX10_shares 13 = .ok (.goto 4, 3) := by decide +kernel
theorem dX10_shares_16 : decode cX10_shares 16 = .ok (.iload_n 1, 1) := by decide +kernel
theorem dX10_shares_17 : decode cX10_shares 17 = .ok (.ireturn, 1) := by decide +kernel
theorem dX10_factOf_0 : decode cX10_factOf 0 = .ok (.iload_n 1, 1) := by decide +kernel
theorem dX10_factOf_1 : decode cX10_factOf 1 = .ok (.tableswitch 52 0 3 #[31, 33, 40, 47], 31) := by decide +kernel
theorem dX10_factOf_32 : decode cX10_factOf 32 = .ok (.iload_n 2, 1) := by decide +kernel
theorem dX10_factOf_33 : decode cX10_factOf 33 = .ok (.ireturn, 1) := by decide +kernel
theorem dX10_factOf_34 : decode cX10_factOf 34 = .ok (.aload_n 0, 1) := by decide +kernel
theorem dX10_factOf_35 : decode cX10_factOf 35 = .ok (.getfield 22, 3) := by decide +kernel
theorem dX10_factOf_38 : decode cX10_factOf 38 = .ok (.iload_n 2, 1) := by decide +kernel
theorem dX10_factOf_39 : decode cX10_factOf 39 = .ok (.iaload, 1) := by decide +kernel
theorem dX10_factOf_40 : decode cX10_factOf 40 = .ok (.ireturn, 1) := by decide +kernel
theorem dX10_factOf_41 : decode cX10_factOf 41 = .ok (.aload_n 0, 1) := by decide +kernel
theorem dX10_factOf_42 : decode cX10_factOf 42 = .ok (.getfield 26, 3) := by decide +kernel
theorem dX10_factOf_45 : decode cX10_factOf 45 = .ok (.iload_n 2, 1) := by decide +kernel
theorem dX10_factOf_46 : decode cX10_factOf 46 = .ok (.iaload, 1) := by decide +kernel
theorem dX10_factOf_47 : decode cX10_factOf 47 = .ok (.ireturn, 1) := by decide +kernel
theorem dX10_factOf_48 : decode cX10_factOf 48 = .ok (.iload_n 3, 1) := by decide +kernel
theorem dX10_factOf_49 : decode cX10_factOf 49 = .ok (.bipush 60, 2) := by decide +kernel
theorem dX10_factOf_51 : decode cX10_factOf 51 = .ok (.irem, 1) := by decide +kernel
theorem dX10_factOf_52 : decode cX10_factOf 52 = .ok (.ireturn, 1) := by decide +kernel
theorem dX10_factOf_53 : decode cX10_factOf 53 = .ok (.iload 4, 2) := by decide +kernel
theorem dX10_factOf_55 : decode cX10_factOf 55 = .ok (.bipush 10, 2) := by decide +kernel
theorem dX10_factOf_57 : decode cX10_factOf 57 = .ok (.irem, 1) := by decide +kernel
theorem dX10_factOf_58 : decode cX10_factOf 58 = .ok (.ireturn, 1) := by decide +kernel
theorem dX10_holds_0 : decode cX10_holds 0 = .ok (.iconst 0, 1) := by decide +kernel
theorem dX10_holds_1 : decode cX10_holds 1 = .ok (.istore 5, 2) := by decide +kernel
theorem dX10_holds_3 : decode cX10_holds 3 = .ok (.aload_n 0, 1) := by decide +kernel
theorem dX10_holds_4 : decode cX10_holds 4 = .ok (.getfield 59, 3) := by decide +kernel
theorem dX10_holds_7 : decode cX10_holds 7 = .ok (.iload_n 1, 1) := by decide +kernel
theorem dX10_holds_8 : decode cX10_holds 8 = .ok (.iaload, 1) := by decide +kernel
theorem dX10_holds_9 : decode cX10_holds 9 = .ok (.istore 6, 2) := by decide +kernel
theorem dX10_holds_11 : decode cX10_holds 11 = .ok (.iload 6, 2) := by decide +kernel
theorem dX10_holds_13 : decode cX10_holds 13 = .ok (.aload_n 0, 1) := by decide +kernel
theorem dX10_holds_14 : decode cX10_holds 14 = .ok (.getfield 62, 3) := by decide +kernel
theorem dX10_holds_17 : decode cX10_holds 17 = .ok (.iload_n 1, 1) := by decide +kernel
theorem dX10_holds_18 : decode cX10_holds 18 = .ok (.iaload, 1) := by decide +kernel
theorem dX10_holds_19 : decode cX10_holds 19 = .ok (.if_icmp .ge 236, 3) := by decide +kernel
theorem dX10_holds_22 : decode cX10_holds 22 = .ok (.aload_n 0, 1) := by decide +kernel
theorem dX10_holds_23 : decode cX10_holds 23 = .ok (.getfield 65, 3) := by decide +kernel
theorem dX10_holds_26 : decode cX10_holds 26 = .ok (.iload 6, 2) := by decide +kernel
theorem dX10_holds_28 : decode cX10_holds 28 = .ok (.iaload, 1) := by decide +kernel
theorem dX10_holds_29 : decode cX10_holds 29 = .ok (.istore 7, 2) := by decide +kernel
theorem dX10_holds_31 : decode cX10_holds 31 = .ok (.iload 7, 2) := by decide +kernel
theorem dX10_holds_33 : decode cX10_holds 33 = .ok (.bipush (-33), 2) := by decide +kernel
theorem dX10_holds_35 : decode cX10_holds 35 = .ok (.if_icmp .ne 32, 3) := by decide +kernel
theorem dX10_holds_38 : decode cX10_holds 38 = .ok (.aload_n 0, 1) := by decide +kernel
theorem dX10_holds_39 : decode cX10_holds 39 = .ok (.getfield 83, 3) := by decide +kernel
theorem dX10_holds_42 : decode cX10_holds 42 = .ok (.iload 5, 2) := by decide +kernel
theorem dX10_holds_44 : decode cX10_holds 44 = .ok (.iconst 1, 1) := by decide +kernel
theorem dX10_holds_45 : decode cX10_holds 45 = .ok (.isub, 1) := by decide +kernel
theorem dX10_holds_46 : decode cX10_holds 46 = .ok (.aload_n 0, 1) := by decide +kernel
theorem dX10_holds_47 : decode cX10_holds 47 = .ok (.getfield 83, 3) := by decide +kernel
theorem dX10_holds_50 : decode cX10_holds 50 = .ok (.iload 5, 2) := by decide +kernel
theorem dX10_holds_52 : decode cX10_holds 52 = .ok (.iconst 1, 1) := by decide +kernel
theorem dX10_holds_53 : decode cX10_holds 53 = .ok (.isub, 1) := by decide +kernel
theorem dX10_holds_54 : decode cX10_holds 54 = .ok (.baload, 1) := by decide +kernel
theorem dX10_holds_55 : decode cX10_holds 55 = .ok (.ifCond .ne 7, 3) := by decide +kernel
theorem dX10_holds_58 : decode cX10_holds 58 = .ok (.iconst 1, 1) := by decide +kernel
theorem dX10_holds_59 : decode cX10_holds 59 = .ok (.goto 4, 3) := by decide +kernel
theorem dX10_holds_62 : decode cX10_holds 62 = .ok (.iconst 0, 1) := by decide +kernel
theorem dX10_holds_63 : decode cX10_holds 63 = .ok (.bastore, 1) := by decide +kernel
theorem dX10_holds_64 : decode cX10_holds 64 = .ok (.goto 185, 3) := by decide +kernel
theorem dX10_holds_67 : decode cX10_holds 67 = .ok (.iload 7, 2) := by decide +kernel
theorem dX10_holds_69 : decode cX10_holds 69 = .ok (.ifCond .ge 82, 3) := by decide +kernel
theorem dX10_holds_72 : decode cX10_holds 72 = .ok (.iinc 5 (-1), 3) := by decide +kernel
theorem dX10_holds_75 : decode cX10_holds 75 = .ok (.aload_n 0, 1) := by decide +kernel
theorem dX10_holds_76 : decode cX10_holds 76 = .ok (.getfield 83, 3) := by decide +kernel
theorem dX10_holds_79 : decode cX10_holds 79 = .ok (.iload 5, 2) := by decide +kernel
theorem dX10_holds_81 : decode cX10_holds 81 = .ok (.iconst 1, 1) := by decide +kernel
theorem dX10_holds_82 : decode cX10_holds 82 = .ok (.isub, 1) := by decide +kernel
theorem dX10_holds_83 : decode cX10_holds 83 = .ok (.iload 7, 2) := by decide +kernel
theorem dX10_holds_85 : decode cX10_holds 85 = .ok (.bipush (-38), 2) := by decide +kernel
theorem dX10_holds_87 : decode cX10_holds 87 = .ok (.if_icmp .ne 33, 3) := by decide +kernel
theorem dX10_holds_90 : decode cX10_holds 90 = .ok (.aload_n 0, 1) := by decide +kernel
theorem dX10_holds_91 : decode cX10_holds 91 = .ok (.getfield 83, 3) := by decide +kernel
theorem dX10_holds_94 : decode cX10_holds 94 = .ok (.iload 5, 2) := by decide +kernel
theorem dX10_holds_96 : decode cX10_holds 96 = .ok (.iconst 1, 1) := by decide +kernel
theorem dX10_holds_97 : decode cX10_holds 97 = .ok (.isub, 1) := by decide +kernel
theorem dX10_holds_98 : decode cX10_holds 98 = .ok (.baload, 1) := by decide +kernel
theorem dX10_holds_99 : decode cX10_holds 99 = .ok (.ifCond .eq 17, 3) := by decide +kernel
theorem dX10_holds_102 : decode cX10_holds 102 = .ok (.aload_n 0, 1) := by decide +kernel
theorem dX10_holds_103 : decode cX10_holds 103 = .ok (.getfield 83, 3) := by decide +kernel
theorem dX10_holds_106 : decode cX10_holds 106 = .ok (.iload 5, 2) := by decide +kernel
theorem dX10_holds_108 : decode cX10_holds 108 = .ok (.baload, 1) := by decide +kernel
theorem dX10_holds_109 : decode cX10_holds 109 = .ok (.ifCond .eq 7, 3) := by decide +kernel
theorem dX10_holds_112 : decode cX10_holds 112 = .ok (.iconst 1, 1) := by decide +kernel
theorem dX10_holds_113 : decode cX10_holds 113 = .ok (.goto 34, 3) := by decide +kernel
theorem dX10_holds_116 : decode cX10_holds 116 = .ok (.iconst 0, 1) := by decide +kernel
theorem dX10_holds_117 : decode cX10_holds 117 = .ok (.goto 30, 3) := by decide +kernel
theorem dX10_holds_120 : decode cX10_holds 120 = .ok (.aload_n 0, 1) := by decide +kernel
theorem dX10_holds_121 : decode cX10_holds 121 = .ok (.getfield 83, 3) := by decide +kernel
theorem dX10_holds_124 : decode cX10_holds 124 = .ok (.iload 5, 2) := by decide +kernel
theorem dX10_holds_126 : decode cX10_holds 126 = .ok (.iconst 1, 1) := by decide +kernel
theorem dX10_holds_127 : decode cX10_holds 127 = .ok (.isub, 1) := by decide +kernel
theorem dX10_holds_128 : decode cX10_holds 128 = .ok (.baload, 1) := by decide +kernel
theorem dX10_holds_129 : decode cX10_holds 129 = .ok (.ifCond .ne 13, 3) := by decide +kernel
theorem dX10_holds_132 : decode cX10_holds 132 = .ok (.aload_n 0, 1) := by decide +kernel
theorem dX10_holds_133 : decode cX10_holds 133 = .ok (.getfield 83, 3) := by decide +kernel
theorem dX10_holds_136 : decode cX10_holds 136 = .ok (.iload 5, 2) := by decide +kernel
theorem dX10_holds_138 : decode cX10_holds 138 = .ok (.baload, 1) := by decide +kernel
theorem dX10_holds_139 : decode cX10_holds 139 = .ok (.ifCond .eq 7, 3) := by decide +kernel
theorem dX10_holds_142 : decode cX10_holds 142 = .ok (.iconst 1, 1) := by decide +kernel
theorem dX10_holds_143 : decode cX10_holds 143 = .ok (.goto 4, 3) := by decide +kernel
theorem dX10_holds_146 : decode cX10_holds 146 = .ok (.iconst 0, 1) := by decide +kernel
theorem dX10_holds_147 : decode cX10_holds 147 = .ok (.bastore, 1) := by decide +kernel
theorem dX10_holds_148 : decode cX10_holds 148 = .ok (.goto 101, 3) := by decide +kernel
theorem dX10_holds_151 : decode cX10_holds 151 = .ok (.aload_n 0, 1) := by decide +kernel
theorem dX10_holds_152 : decode cX10_holds 152 = .ok (.iload 7, 2) := by decide +kernel
theorem dX10_holds_154 : decode cX10_holds 154 = .ok (.sipush 1000, 3) := by decide +kernel
theorem dX10_holds_157 : decode cX10_holds 157 = .ok (.idiv, 1) := by decide +kernel
theorem dX10_holds_158 : decode cX10_holds 158 = .ok (.iload_n 2, 1) := by decide +kernel
theorem dX10_holds_159 : decode cX10_holds 159 = .ok (.iload_n 3, 1) := by decide +kernel
theorem dX10_holds_160 : decode cX10_holds 160 = .ok (.iload 4, 2) := by decide +kernel
theorem dX10_holds_162 : decode cX10_holds 162 = .ok (.invokevirtual 248, 3) := by decide +kernel
theorem dX10_holds_165 : decode cX10_holds 165 = .ok (.istore 8, 2) := by decide +kernel
theorem dX10_holds_167 : decode cX10_holds 167 = .ok (.iload 7, 2) := by decide +kernel
theorem dX10_holds_169 : decode cX10_holds 169 = .ok (.bipush 100, 2) := by decide +kernel
theorem dX10_holds_171 : decode cX10_holds 171 = .ok (.idiv, 1) := by decide +kernel
theorem dX10_holds_172 : decode cX10_holds 172 = .ok (.bipush 10, 2) := by decide +kernel
theorem dX10_holds_174 : decode cX10_holds 174 = .ok (.irem, 1) := by decide +kernel
theorem dX10_holds_175 : decode cX10_holds 175 = .ok (.istore 9, 2) := by decide +kernel
theorem dX10_holds_177 : decode cX10_holds 177 = .ok (.aload_n 0, 1) := by decide +kernel
theorem dX10_holds_178 : decode cX10_holds 178 = .ok (.getfield 83, 3) := by decide +kernel
theorem dX10_holds_181 : decode cX10_holds 181 = .ok (.iload 5, 2) := by decide +kernel
theorem dX10_holds_183 : decode cX10_holds 183 = .ok (.iload 9, 2) := by decide +kernel
theorem dX10_holds_185 : decode cX10_holds 185 = .ok (.ifCond .ne 21, 3) := by decide +kernel
theorem dX10_holds_188 : decode cX10_holds 188 = .ok (.iload 8, 2) := by decide +kernel
theorem dX10_holds_190 : decode cX10_holds 190 = .ok (.iload 7, 2) := by decide +kernel
theorem dX10_holds_192 : decode cX10_holds 192 = .ok (.bipush 100, 2) := by decide +kernel
theorem dX10_holds_194 : decode cX10_holds 194 = .ok (.irem, 1) := by decide +kernel
theorem dX10_holds_195 : decode cX10_holds 195 = .ok (.if_icmp .ge 7, 3) := by decide +kernel
theorem dX10_holds_198 : decode cX10_holds 198 = .ok (.iconst 1, 1) := by decide +kernel
theorem dX10_holds_199 : decode cX10_holds 199 = .ok (.goto 46, 3) := by decide +kernel
theorem dX10_holds_202 : decode cX10_holds 202 = .ok (.iconst 0, 1) := by decide +kernel
theorem dX10_holds_203 : decode cX10_holds 203 = .ok (.goto 42, 3) := by decide +kernel
theorem dX10_holds_206 : decode cX10_holds 206 = .ok (.iload 9, 2) := by decide +kernel
theorem dX10_holds_208 : decode cX10_holds 208 = .ok (.iconst 1, 1) := by decide +kernel
theorem dX10_holds_209 : decode cX10_holds 209 = .ok (.if_icmp .ne 21, 3) := by decide +kernel
theorem dX10_holds_212 : decode cX10_holds 212 = .ok (.iload 8, 2) := by decide +kernel
theorem dX10_holds_214 : decode cX10_holds 214 = .ok (.iload 7, 2) := by decide +kernel
theorem dX10_holds_216 : decode cX10_holds 216 = .ok (.bipush 100, 2) := by decide +kernel
theorem dX10_holds_218 : decode cX10_holds 218 = .ok (.irem, 1) := by decide +kernel
theorem dX10_holds_219 : decode cX10_holds 219 = .ok (.if_icmp .ne 7, 3) := by decide +kernel
theorem dX10_holds_222 : decode cX10_holds 222 = .ok (.iconst 1, 1) := by decide +kernel
theorem dX10_holds_223 : decode cX10_holds 223 = .ok (.goto 22, 3) := by decide +kernel
theorem dX10_holds_226 : decode cX10_holds 226 = .ok (.iconst 0, 1) := by decide +kernel
theorem dX10_holds_227 : decode cX10_holds 227 = .ok (.goto 18, 3) := by decide +kernel
theorem dX10_holds_230 : decode cX10_holds 230 = .ok (.iload 8, 2) := by decide +kernel
theorem dX10_holds_232 : decode cX10_holds 232 = .ok (.iload 7, 2) := by decide +kernel
theorem dX10_holds_234 : decode cX10_holds 234 = .ok (.bipush 100, 2) := by decide +kernel
theorem dX10_holds_236 : decode cX10_holds 236 = .ok (.irem, 1) := by decide +kernel
theorem dX10_holds_237 : decode cX10_holds 237 = .ok (.if_icmp .le 7, 3) := by decide +kernel
theorem dX10_holds_240 : decode cX10_holds 240 = .ok (.iconst 1, 1) := by decide +kernel
theorem dX10_holds_241 : decode cX10_holds 241 = .ok (.goto 4, 3) := by decide +kernel
theorem dX10_holds_244 : decode cX10_holds 244 = .ok (.iconst 0, 1) := by decide +kernel
theorem dX10_holds_245 : decode cX10_holds 245 = .ok (.bastore, 1) := by decide +kernel
theorem dX10_holds_246 : decode cX10_holds 246 = .ok (.iinc 5 1, 3) := by decide +kernel
theorem dX10_holds_249 : decode cX10_holds 249 = .ok (.iinc 6 1, 3) := by decide +kernel
theorem dX10_holds_252 : decode cX10_holds 252 = .ok (.goto (-241), 3) := by decide +kernel
theorem dX10_holds_255 : decode cX10_holds 255 = .ok (.aload_n 0, 1) := by decide +kernel
theorem dX10_holds_256 : decode cX10_holds 256 = .ok (.getfield 83, 3) := by decide +kernel
theorem dX10_holds_259 : decode cX10_holds 259 = .ok (.iconst 0, 1) := by decide +kernel
theorem dX10_holds_260 : decode cX10_holds 260 = .ok (.baload, 1) := by decide +kernel
theorem dX10_holds_261 : decode cX10_holds 261 = .ok (.ireturn, 1) := by decide +kernel
theorem dX10_sumOf_0 : decode cX10_sumOf 0 = .ok (.iconst 0, 1) := by decide +kernel
theorem dX10_sumOf_1 : decode cX10_sumOf 1 = .ok (.istore 5, 2) := by decide +kernel
theorem dX10_sumOf_3 : decode cX10_sumOf 3 = .ok (.aload_n 0, 1) := by decide +kernel
theorem dX10_sumOf_4 : decode cX10_sumOf 4 = .ok (.invokevirtual 238, 3) := by decide +kernel
theorem dX10_sumOf_7 : decode cX10_sumOf 7 = .ok (.istore 6, 2) := by decide +kernel
theorem dX10_sumOf_9 : decode cX10_sumOf 9 = .ok (.iload 6, 2) := by decide +kernel
theorem dX10_sumOf_11 : decode cX10_sumOf 11 = .ok (.aload_n 0, 1) := by decide +kernel
theorem dX10_sumOf_12 : decode cX10_sumOf 12 = .ok (.invokevirtual 241, 3) := by decide +kernel
theorem dX10_sumOf_15 : decode cX10_sumOf 15 = .ok (.if_icmp .ge 49, 3) := by decide +kernel
theorem dX10_sumOf_18 : decode cX10_sumOf 18 = .ok (.iload 5, 2) := by decide +kernel
theorem dX10_sumOf_20 : decode cX10_sumOf 20 = .ok (.aload_n 0, 1) := by decide +kernel
theorem dX10_sumOf_21 : decode cX10_sumOf 21 = .ok (.getfield 53, 3) := by decide +kernel
theorem dX10_sumOf_24 : decode cX10_sumOf 24 = .ok (.iload 6, 2) := by decide +kernel
theorem dX10_sumOf_26 : decode cX10_sumOf 26 = .ok (.iaload, 1) := by decide +kernel
theorem dX10_sumOf_27 : decode cX10_sumOf 27 = .ok (.iload_n 1, 1) := by decide +kernel
theorem dX10_sumOf_28 : decode cX10_sumOf 28 = .ok (.if_icmp .ne 26, 3) := by decide +kernel
theorem dX10_sumOf_31 : decode cX10_sumOf 31 = .ok (.aload_n 0, 1) := by decide +kernel
theorem dX10_sumOf_32 : decode cX10_sumOf 32 = .ok (.iload 6, 2) := by decide +kernel
theorem dX10_sumOf_34 : decode cX10_sumOf 34 = .ok (.iload_n 2, 1) := by decide +kernel
theorem dX10_sumOf_35 : decode cX10_sumOf 35 = .ok (.iload_n 3, 1) := by decide +kernel
theorem dX10_sumOf_36 : decode cX10_sumOf 36 = .ok (.iload 4, 2) := by decide +kernel
theorem dX10_sumOf_38 : decode cX10_sumOf 38 = .ok (.invokevirtual 252, 3) := by decide +kernel
theorem dX10_sumOf_41 : decode cX10_sumOf 41 = .ok (.ifCond .eq 13, 3) := by decide +kernel
theorem dX10_sumOf_44 : decode cX10_sumOf 44 = .ok (.aload_n 0, 1) := by decide +kernel
theorem dX10_sumOf_45 : decode cX10_sumOf 45 = .ok (.getfield 56, 3) := by decide +kernel
theorem dX10_sumOf_48 : decode cX10_sumOf 48 = .ok (.iload 6, 2) := by decide +kernel
theorem dX10_sumOf_50 : decode cX10_sumOf 50 = .ok (.iaload, 1) := by decide +kernel
theorem dX10_sumOf_51 : decode cX10_sumOf 51 = .ok (.goto 4, 3) := by decide +kernel
theorem dX10_sumOf_54 : decode cX10_sumOf 54 = .ok (.iconst 0, 1) := by decide +kernel
theorem dX10_sumOf_55 : decode cX10_sumOf 55 = .ok (.iadd, 1) := by decide +kernel
theorem dX10_sumOf_56 : decode cX10_sumOf 56 = .ok (.istore 5, 2) := by decide +kernel
theorem dX10_sumOf_58 : decode cX10_sumOf 58 = .ok (.iinc 6 1, 3) := by decide +kernel
theorem dX10_sumOf_61 : decode cX10_sumOf 61 = .ok (.goto (-52), 3) := by decide +kernel
theorem dX10_sumOf_64 : decode cX10_sumOf 64 = .ok (.iload 5, 2) := by decide +kernel
theorem dX10_sumOf_66 : decode cX10_sumOf 66 = .ok (.ireturn, 1) := by decide +kernel
theorem dX10_hasOver_0 : decode cX10_hasOver 0 = .ok (.aload_n 0, 1) := by decide +kernel
theorem dX10_hasOver_1 : decode cX10_hasOver 1 = .ok (.invokevirtual 238, 3) := by decide +kernel
theorem dX10_hasOver_4 : decode cX10_hasOver 4 = .ok (.istore_n 1, 1) := by decide +kernel
theorem dX10_hasOver_5 : decode cX10_hasOver 5 = .ok (.iload_n 1, 1) := by decide +kernel
theorem dX10_hasOver_6 : decode cX10_hasOver 6 = .ok (.aload_n 0, 1) := by decide +kernel
theorem dX10_hasOver_7 : decode cX10_hasOver 7 = .ok (.invokevirtual 241, 3) := by decide +kernel
theorem dX10_hasOver_10 : decode cX10_hasOver 10 = .ok (.if_icmp .ge 21, 3) := by decide +kernel
theorem dX10_hasOver_13 : decode cX10_hasOver 13 = .ok (.aload_n 0, 1) := by decide +kernel
theorem dX10_hasOver_14 : decode cX10_hasOver 14 = .ok (.getfield 53, 3) := by decide +kernel
theorem dX10_hasOver_17 : decode cX10_hasOver 17 = .ok (.iload_n 1, 1) := by decide +kernel
theorem dX10_hasOver_18 : decode cX10_hasOver 18 = .ok (.iaload, 1) := by decide +kernel
theorem dX10_hasOver_19 : decode cX10_hasOver 19 = .ok (.iconst 1, 1) := by decide +kernel
theorem dX10_hasOver_20 : decode cX10_hasOver 20 = .ok (.if_icmp .ne 5, 3) := by decide +kernel
theorem dX10_hasOver_23 : decode cX10_hasOver 23 = .ok (.iconst 1, 1) := by decide +kernel
theorem dX10_hasOver_24 : decode cX10_hasOver 24 = .ok (.ireturn, 1) := by decide +kernel
theorem dX10_hasOver_25 : decode cX10_hasOver 25 = .ok (.iinc 1 1, 3) := by decide +kernel
theorem dX10_hasOver_28 : decode cX10_hasOver 28 = .ok (.goto (-23), 3) := by decide +kernel
theorem dX10_hasOver_31 : decode cX10_hasOver 31 = .ok (.iconst 0, 1) := by decide +kernel
theorem dX10_hasOver_32 : decode cX10_hasOver 32 = .ok (.ireturn, 1) := by decide +kernel
theorem dX10_overOf_0 : decode cX10_overOf 0 = .ok (.aload_n 0, 1) := by decide +kernel
theorem dX10_overOf_1 : decode cX10_overOf 1 = .ok (.invokevirtual 256, 3) := by decide +kernel
theorem dX10_overOf_4 : decode cX10_overOf 4 = .ok (.ifCond .eq 14, 3) := by decide +kernel
theorem dX10_overOf_7 : decode cX10_overOf 7 = .ok (.aload_n 0, 1) := by decide +kernel
theorem dX10_overOf_8 : decode cX10_overOf 8 = .ok (.iconst 1, 1) := by decide +kernel
theorem dX10_overOf_9 : decode cX10_overOf 9 = .ok (.iload_n 1, 1) := by decide +kernel
theorem dX10_overOf_10 : decode cX10_overOf 10 = .ok (.iload_n 2, 1) := by decide +kernel
theorem dX10_overOf_11 : decode cX10_overOf 11 = .ok (.iload_n 3, 1) := by decide +kernel
theorem dX10_overOf_12 : decode cX10_overOf 12 = .ok (.invokevirtual 259, 3) := by decide +kernel
theorem dX10_overOf_15 : decode cX10_overOf 15 = .ok (.goto 4, 3) := by decide +kernel
theorem dX10_overOf_18 : decode cX10_overOf 18 = .ok (.iconst 1, 1) := by decide +kernel
theorem dX10_overOf_19 : decode cX10_overOf 19 = .ok (.ireturn, 1) := by decide +kernel
theorem dX10_partsOf_0 : decode cX10_partsOf 0 = .ok (.aload_n 0, 1) := by decide +kernel
theorem dX10_partsOf_1 : decode cX10_partsOf 1 = .ok (.getfield 22, 3) := by decide +kernel
theorem dX10_partsOf_4 : decode cX10_partsOf 4 = .ok (.iload_n 1, 1) := by decide +kernel
theorem dX10_partsOf_5 : decode cX10_partsOf 5 = .ok (.iaload, 1) := by decide +kernel
theorem dX10_partsOf_6 : decode cX10_partsOf 6 = .ok (.tableswitch 49 1 6 #[38, 49, 47, 38, 49, 47], 38) := by decide +kernel
theorem dX10_partsOf_44 : decode cX10_partsOf 44 = .ok (.aload_n 0, 1) := by decide +kernel
theorem dX10_partsOf_45 : decode cX10_partsOf 45 = .ok (.getfield 26, 3) := by decide +kernel
theorem dX10_partsOf_48 : decode cX10_partsOf 48 = .ok (.iload_n 1, 1) := by decide +kernel
theorem dX10_partsOf_49 : decode cX10_partsOf 49 = .ok (.iaload, 1) := by decide +kernel
theorem dX10_partsOf_50 : decode cX10_partsOf 50 = .ok (.iconst 2, 1) := by decide +kernel
theorem dX10_partsOf_51 : decode cX10_partsOf 51 = .ok (.iadd, 1) := by decide +kernel
theorem dX10_partsOf_52 : decode cX10_partsOf 52 = .ok (.ireturn, 1) := by decide +kernel
theorem dX10_partsOf_53 : decode cX10_partsOf 53 = .ok (.iconst 2, 1) := by decide +kernel
theorem dX10_partsOf_54 : decode cX10_partsOf 54 = .ok (.ireturn, 1) := by decide +kernel
theorem dX10_partsOf_55 : decode cX10_partsOf 55 = .ok (.aload_n 0, 1) := by decide +kernel
theorem dX10_partsOf_56 : decode cX10_partsOf 56 = .ok (.invokevirtual 262, 3) := by decide +kernel
theorem dX10_partsOf_59 : decode cX10_partsOf 59 = .ok (.ireturn, 1) := by decide +kernel
theorem dX10_comesOut_0 : decode cX10_comesOut 0 = .ok (.aload_n 0, 1) := by decide +kernel
theorem dX10_comesOut_1 : decode cX10_comesOut 1 = .ok (.iload_n 1, 1) := by decide +kernel
theorem dX10_comesOut_2 : decode cX10_comesOut 2 = .ok (.iload_n 2, 1) := by decide +kernel
theorem dX10_comesOut_3 : decode cX10_comesOut 3 = .ok (.iload_n 3, 1) := by decide +kernel
theorem dX10_comesOut_4 : decode cX10_comesOut 4 = .ok (.invokevirtual 265, 3) := by decide +kernel
theorem dX10_comesOut_7 : decode cX10_comesOut 7 = .ok (.istore 4, 2) := by decide +kernel
theorem dX10_comesOut_9 : decode cX10_comesOut 9 = .ok (.iload_n 3, 1) := by decide +kernel
theorem dX10_comesOut_10 : decode cX10_comesOut 10 = .ok (.iload 4, 2) := by decide +kernel
theorem dX10_comesOut_12 : decode cX10_comesOut 12 = .ok (.if_icmp .lt 20, 3) := by decide +kernel
theorem dX10_comesOut_15 : decode cX10_comesOut 15 = .ok (.iload_n 3, 1) := by decide +kernel
theorem dX10_comesOut_16 : decode cX10_comesOut 16 = .ok (.iload 4, 2) := by decide +kernel
theorem dX10_comesOut_18 : decode cX10_comesOut 18 = .ok (.isub, 1) := by decide +kernel
theorem dX10_comesOut_19 : decode cX10_comesOut 19 = .ok (.aload_n 0, 1) := by decide +kernel
theorem dX10_comesOut_20 : decode cX10_comesOut 20 = .ok (.iload_n 1, 1) := by decide +kernel
theorem dX10_comesOut_21 : decode cX10_comesOut 21 = .ok (.invokevirtual 269, 3) := by decide +kernel
theorem dX10_comesOut_24 : decode cX10_comesOut 24 = .ok (.irem, 1) := by decide +kernel
theorem dX10_comesOut_25 : decode cX10_comesOut 25 = .ok (.ifCond .ne 7, 3) := by decide +kernel
theorem dX10_comesOut_28 : decode cX10_comesOut 28 = .ok (.iconst 1, 1) := by decide +kernel
theorem dX10_comesOut_29 : decode cX10_comesOut 29 = .ok (.goto 4, 3) := by decide +kernel
theorem dX10_comesOut_32 : decode cX10_comesOut 32 = .ok (.iconst 0, 1) := by decide +kernel
theorem dX10_comesOut_33 : decode cX10_comesOut 33 = .ok (.ireturn, 1) := by decide +kernel
theorem dX10_hidesOf_0 : decode cX10_hidesOf 0 = .ok (.iload_n 2, 1) := by decide +kernel
theorem dX10_hidesOf_1 : decode cX10_hidesOf 1 = .ok (.iload_n 3, 1) := by decide +kernel
theorem dX10_hidesOf_2 : decode cX10_hidesOf 2 = .ok (.isub, 1) := by decide +kernel
theorem dX10_hidesOf_3 : decode cX10_hidesOf 3 = .ok (.istore 4, 2) := by decide +kernel
theorem dX10_hidesOf_5 : decode cX10_hidesOf 5 = .ok (.iconst 2, 1) := by decide +kernel
theorem dX10_hidesOf_6 : decode cX10_hidesOf 6 = .ok (.iload_n 2, 1) := by decide +kernel
theorem dX10_hidesOf_7 : decode cX10_hidesOf 7 = .ok (.imul, 1) := by decide +kernel
theorem dX10_hidesOf_8 : decode cX10_hidesOf 8 = .ok (.iload_n 3, 1) := by decide +kernel
theorem dX10_hidesOf_9 : decode cX10_hidesOf 9 = .ok (.isub, 1) := by decide +kernel
theorem dX10_hidesOf_10 : decode cX10_hidesOf 10 = .ok (.istore 5, 2) := by decide +kernel
theorem dX10_hidesOf_12 : decode cX10_hidesOf 12 = .ok (.aload_n 0, 1) := by decide +kernel
theorem dX10_hidesOf_13 : decode cX10_hidesOf 13 = .ok (.getfield 22, 3) := by decide +kernel
theorem dX10_hidesOf_16 : decode cX10_hidesOf 16 = .ok (.iload_n 1, 1) := by decide +kernel
theorem dX10_hidesOf_17 : decode cX10_hidesOf 17 = .ok (.iaload, 1) := by decide +kernel
theorem dX10_hidesOf_18 : decode cX10_hidesOf 18 = .ok (.tableswitch 75 2 6 #[36, 75, 34, 36, 48], 34) := by decide +kernel
theorem dX10_hidesOf_52 : decode cX10_hidesOf 52 = .ok (.iconst 0, 1) := by decide +kernel
theorem dX10_hidesOf_53 : decode cX10_hidesOf 53 = .ok (.ireturn, 1) := by decide +kernel
theorem dX10_hidesOf_54 : decode cX10_hidesOf 54 = .ok (.iload 5, 2) := by decide +kernel
theorem dX10_hidesOf_56 : decode cX10_hidesOf 56 = .ok (.ifCond .ge 7, 3) := by decide +kernel
theorem dX10_hidesOf_59 : decode cX10_hidesOf 59 = .ok (.iconst 0, 1) := by decide +kernel
theorem dX10_hidesOf_60 : decode cX10_hidesOf 60 = .ok (.goto 5, 3) := by decide +kernel
theorem dX10_hidesOf_63 : decode cX10_hidesOf 63 = .ok (.iload 5, 2) := by decide +kernel
theorem dX10_hidesOf_65 : decode cX10_hidesOf 65 = .ok (.ireturn, 1) := by decide +kernel
theorem dX10_hidesOf_66 : decode cX10_hidesOf 66 = .ok (.iload_n 2, 1) := by decide +kernel
theorem dX10_hidesOf_67 : decode cX10_hidesOf 67 = .ok (.iload_n 3, 1) := by decide +kernel
theorem dX10_hidesOf_68 : decode cX10_hidesOf 68 = .ok (.iadd, 1) := by decide +kernel
theorem dX10_hidesOf_69 : decode cX10_hidesOf 69 = .ok (.aload_n 0, 1) := by decide +kernel
theorem dX10_hidesOf_70 : decode cX10_hidesOf 70 = .ok (.iload_n 1, 1) := by decide +kernel
theorem dX10_hidesOf_71 : decode cX10_hidesOf 71 = .ok (.invokevirtual 269, 3) := by decide +kernel
theorem dX10_hidesOf_74 : decode cX10_hidesOf 74 = .ok (.iload_n 2, 1) := by decide +kernel
theorem dX10_hidesOf_75 : decode cX10_hidesOf 75 = .ok (.imul, 1) := by decide +kernel
theorem dX10_hidesOf_76 : decode cX10_hidesOf 76 = .ok (.if_icmp .le 13, 3) := by decide +kernel
theorem dX10_hidesOf_79 : decode cX10_hidesOf 79 = .ok (.aload_n 0, 1) := by decide +kernel
theorem dX10_hidesOf_80 : decode cX10_hidesOf 80 = .ok (.iload_n 1, 1) := by decide +kernel
theorem dX10_hidesOf_81 : decode cX10_hidesOf 81 = .ok (.invokevirtual 269, 3) := by decide +kernel
theorem dX10_hidesOf_84 : decode cX10_hidesOf 84 = .ok (.iload_n 2, 1) := by decide +kernel
theorem dX10_hidesOf_85 : decode cX10_hidesOf 85 = .ok (.imul, 1) := by decide +kernel
theorem dX10_hidesOf_86 : decode cX10_hidesOf 86 = .ok (.goto 6, 3) := by decide +kernel
theorem dX10_hidesOf_89 : decode cX10_hidesOf 89 = .ok (.iload_n 2, 1) := by decide +kernel
theorem dX10_hidesOf_90 : decode cX10_hidesOf 90 = .ok (.iload_n 3, 1) := by decide +kernel
theorem dX10_hidesOf_91 : decode cX10_hidesOf 91 = .ok (.iadd, 1) := by decide +kernel
theorem dX10_hidesOf_92 : decode cX10_hidesOf 92 = .ok (.ireturn, 1) := by decide +kernel
theorem dX10_hidesOf_93 : decode cX10_hidesOf 93 = .ok (.iload 4, 2) := by decide +kernel
theorem dX10_hidesOf_95 : decode cX10_hidesOf 95 = .ok (.ifCond .ge 7, 3) := by decide +kernel
theorem dX10_hidesOf_98 : decode cX10_hidesOf 98 = .ok (.iconst 0, 1) := by decide +kernel
theorem dX10_hidesOf_99 : decode cX10_hidesOf 99 = .ok (.goto 5, 3) := by decide +kernel
theorem dX10_hidesOf_102 : decode cX10_hidesOf 102 = .ok (.iload 4, 2) := by decide +kernel
theorem dX10_hidesOf_104 : decode cX10_hidesOf 104 = .ok (.ireturn, 1) := by decide +kernel
theorem dX10_shared_0 : decode cX10_shared 0 = .ok (.aload_n 0, 1) := by decide +kernel
theorem dX10_shared_1 : decode cX10_shared 1 = .ok (.iload_n 1, 1) := by decide +kernel
theorem dX10_shared_2 : decode cX10_shared 2 = .ok (.iload_n 2, 1) := by decide +kernel
theorem dX10_shared_3 : decode cX10_shared 3 = .ok (.aload_n 0, 1) := by decide +kernel
theorem dX10_shared_4 : decode cX10_shared 4 = .ok (.getfield 87, 3) := by decide +kernel
theorem dX10_shared_7 : decode cX10_shared 7 = .ok (.invokevirtual 272, 3) := by decide +kernel
theorem dX10_shared_10 : decode cX10_shared 10 = .ok (.ifCond .ne 5, 3) := by decide +kernel
theorem dX10_shared_13 : decode cX10_shared 13 = .ok (.iconst 0, 1) := by decide +kernel
theorem dX10_shared_14 : decode cX10_shared 14 = .ok (.ireturn, 1) := by decide +kernel
theorem dX10_shared_15 : decode cX10_shared 15 = .ok (.aload_n 0, 1) := by decide +kernel
theorem dX10_shared_16 : decode cX10_shared 16 = .ok (.iload_n 1, 1) := by decide +kernel
theorem dX10_shared_17 : decode cX10_shared 17 = .ok (.iload_n 2, 1) := by decide +kernel
theorem dX10_shared_18 : decode cX10_shared 18 = .ok (.aload_n 0, 1) := by decide +kernel
theorem dX10_shared_19 : decode cX10_shared 19 = .ok (.getfield 87, 3) := by decide +kernel
theorem dX10_shared_22 : decode cX10_shared 22 = .ok (.invokevirtual 265, 3) := by decide +kernel
theorem dX10_shared_25 : decode cX10_shared 25 = .ok (.istore_n 3, 1) := by decide +kernel
theorem dX10_shared_26 : decode cX10_shared 26 = .ok (.aload_n 0, 1) := by decide +kernel
theorem dX10_shared_27 : decode cX10_shared 27 = .ok (.iload_n 1, 1) := by decide +kernel
theorem dX10_shared_28 : decode cX10_shared 28 = .ok (.aload_n 0, 1) := by decide +kernel
theorem dX10_shared_29 : decode cX10_shared 29 = .ok (.getfield 87, 3) := by decide +kernel
theorem dX10_shared_32 : decode cX10_shared 32 = .ok (.iload_n 3, 1) := by decide +kernel
theorem dX10_shared_33 : decode cX10_shared 33 = .ok (.isub, 1) := by decide +kernel
theorem dX10_shared_34 : decode cX10_shared 34 = .ok (.aload_n 0, 1) := by decide +kernel
theorem dX10_shared_35 : decode cX10_shared 35 = .ok (.iload_n 1, 1) := by decide +kernel
theorem dX10_shared_36 : decode cX10_shared 36 = .ok (.invokevirtual 269, 3) := by decide +kernel
theorem dX10_shared_39 : decode cX10_shared 39 = .ok (.idiv, 1) := by decide +kernel
theorem dX10_shared_40 : decode cX10_shared 40 = .ok (.aload_n 0, 1) := by decide +kernel
theorem dX10_shared_41 : decode cX10_shared 41 = .ok (.iconst 2, 1) := by decide +kernel
theorem dX10_shared_42 : decode cX10_shared 42 = .ok (.iload_n 1, 1) := by decide +kernel
theorem dX10_shared_43 : decode cX10_shared 43 = .ok (.iload_n 2, 1) := by decide +kernel
theorem dX10_shared_44 : decode cX10_shared 44 = .ok (.aload_n 0, 1) := by decide +kernel
theorem dX10_shared_45 : decode cX10_shared 45 = .ok (.getfield 87, 3) := by decide +kernel
theorem dX10_shared_48 : decode cX10_shared 48 = .ok (.invokevirtual 259, 3) := by decide +kernel
theorem dX10_shared_51 : decode cX10_shared 51 = .ok (.invokevirtual 275, 3) := by decide +kernel
theorem dX10_shared_54 : decode cX10_shared 54 = .ok (.istore 4, 2) := by decide +kernel
theorem dX10_shared_56 : decode cX10_shared 56 = .ok (.aload_n 0, 1) := by decide +kernel
theorem dX10_shared_57 : decode cX10_shared 57 = .ok (.dup, 1) := by decide +kernel
theorem dX10_shared_58 : decode cX10_shared 58 = .ok (.getfield 87, 3) := by decide +kernel
theorem dX10_shared_61 : decode cX10_shared 61 = .ok (.iload_n 3, 1) := by decide +kernel
theorem dX10_shared_62 : decode cX10_shared 62 = .ok (.iload 4, 2) := by decide +kernel
theorem dX10_shared_64 : decode cX10_shared 64 = .ok (.iadd, 1) := by decide +kernel
theorem dX10_shared_65 : decode cX10_shared 65 = .ok (.isub, 1) := by decide +kernel
theorem dX10_shared_66 : decode cX10_shared 66 = .ok (.putfield 87, 3) := by decide +kernel
theorem dX10_shared_69 : decode cX10_shared 69 = .ok (.aload_n 0, 1) := by decide +kernel
theorem dX10_shared_70 : decode cX10_shared 70 = .ok (.dup, 1) := by decide +kernel
theorem dX10_shared_71 : decode cX10_shared 71 = .ok (.getfield 90, 3) := by decide +kernel
theorem dX10_shared_74 : decode cX10_shared 74 = .ok (.iload_n 3, 1) := by decide +kernel
theorem dX10_shared_75 : decode cX10_shared 75 = .ok (.iadd, 1) := by decide +kernel
theorem dX10_shared_76 : decode cX10_shared 76 = .ok (.putfield 90, 3) := by decide +kernel
theorem dX10_shared_79 : decode cX10_shared 79 = .ok (.aload_n 0, 1) := by decide +kernel
theorem dX10_shared_80 : decode cX10_shared 80 = .ok (.dup, 1) := by decide +kernel
theorem dX10_shared_81 : decode cX10_shared 81 = .ok (.getfield 93, 3) := by decide +kernel
theorem dX10_shared_84 : decode cX10_shared 84 = .ok (.iload 4, 2) := by decide +kernel
theorem dX10_shared_86 : decode cX10_shared 86 = .ok (.iadd, 1) := by decide +kernel
theorem dX10_shared_87 : decode cX10_shared 87 = .ok (.putfield 93, 3) := by decide +kernel
theorem dX10_shared_90 : decode cX10_shared 90 = .ok (.iconst 1, 1) := by decide +kernel
theorem dX10_shared_91 : decode cX10_shared 91 = .ok (.ireturn, 1) := by decide +kernel
theorem dX10_wakes_0 : decode cX10_wakes 0 = .ok (.aload_n 0, 1) := by decide +kernel
theorem dX10_wakes_1 : decode cX10_wakes 1 = .ok (.iconst 0, 1) := by decide +kernel
theorem dX10_wakes_2 : decode cX10_wakes 2 = .ok (.putfield 90, 3) := by decide +kernel
theorem dX10_wakes_5 : decode cX10_wakes 5 = .ok (.aload_n 0, 1) := by decide +kernel
theorem dX10_wakes_6 : decode cX10_wakes 6 = .ok (.iconst 0, 1) := by decide +kernel
theorem dX10_wakes_7 : decode cX10_wakes 7 = .ok (.putfield 93, 3) := by decide +kernel
theorem dX10_wakes_10 : decode cX10_wakes 10 = .ok (.aload_n 0, 1) := by decide +kernel
theorem dX10_wakes_11 : decode cX10_wakes 11 = .ok (.iload_n 1, 1) := by decide +kernel
theorem dX10_wakes_12 : decode cX10_wakes 12 = .ok (.iload_n 2, 1) := by decide +kernel
theorem dX10_wakes_13 : decode cX10_wakes 13 = .ok (.invokevirtual 278, 3) := by decide +kernel
theorem dX10_wakes_16 : decode cX10_wakes 16 = .ok (.ifCond .ne 5, 3) := by decide +kernel
theorem dX10_wakes_19 : decode cX10_wakes 19 = .ok (.iconst 0, 1) := by decide +kernel
theorem dX10_wakes_20 : decode cX10_wakes 20 = .ok (.ireturn, 1) := by decide +kernel
theorem dX10_wakes_21 : decode cX10_wakes 21 = .ok (.aload_n 0, 1) := by decide +kernel
theorem dX10_wakes_22 : decode cX10_wakes 22 = .ok (.getfield 22, 3) := by decide +kernel
theorem dX10_wakes_25 : decode cX10_wakes 25 = .ok (.iload_n 1, 1) := by decide +kernel
theorem dX10_wakes_26 : decode cX10_wakes 26 = .ok (.iaload, 1) := by decide +kernel
theorem dX10_wakes_27 : decode cX10_wakes 27 = .ok (.iconst 5, 1) := by decide +kernel
theorem dX10_wakes_28 : decode cX10_wakes 28 = .ok (.if_icmp .ne 16, 3) := by decide +kernel
theorem dX10_wakes_31 : decode cX10_wakes 31 = .ok (.aload_n 0, 1) := by decide +kernel
theorem dX10_wakes_32 : decode cX10_wakes 32 = .ok (.iload_n 1, 1) := by decide +kernel
theorem dX10_wakes_33 : decode cX10_wakes 33 = .ok (.iload_n 2, 1) := by decide +kernel
theorem dX10_wakes_34 : decode cX10_wakes 34 = .ok (.invokevirtual 278, 3) := by decide +kernel
theorem dX10_wakes_37 : decode cX10_wakes 37 = .ok (.ifCond .eq 7, 3) := by decide +kernel
theorem dX10_wakes_40 : decode cX10_wakes 40 = .ok (.iconst 1, 1) := by decide +kernel
theorem dX10_wakes_41 : decode cX10_wakes 41 = .ok (.goto 4, 3) := by decide +kernel
theorem dX10_wakes_44 : decode cX10_wakes 44 = .ok (.iconst 0, 1) := by decide +kernel
theorem dX10_wakes_45 : decode cX10_wakes 45 = .ok (.istore_n 3, 1) := by decide +kernel
theorem dX10_wakes_46 : decode cX10_wakes 46 = .ok (.iconst 1, 1) := by decide +kernel
theorem dX10_wakes_47 : decode cX10_wakes 47 = .ok (.ireturn, 1) := by decide +kernel
theorem dX10_of_0 : decode cX10_of 0 = .ok (.aload_n 0, 1) := by decide +kernel
theorem dX10_of_1 : decode cX10_of 1 = .ok (.iload_n 1, 1) := by decide +kernel
theorem dX10_of_2 : decode cX10_of 2 = .ok (.invokevirtual 281, 3) := by decide +kernel
theorem dX10_of_5 : decode cX10_of 5 = .ok (.ifCond .ne 7, 3) := by decide +kernel
theorem dX10_of_8 : decode cX10_of 8 = .ok (.sipush (-10001), 3) := by decide +kernel
theorem dX10_of_11 : decode cX10_of 11 = .ok (.ireturn, 1) := by decide +kernel
theorem dX10_of_12 : decode cX10_of 12 = .ok (.iload_n 2, 1) := by decide +kernel
theorem dX10_of_13 : decode cX10_of 13 = .ok (.tableswitch 121 0 6 #[43, 50, 57, 64, 70, 84, 99], 43) := by decide +kernel
theorem dX10_of_56 : decode cX10_of 56 = .ok (.aload_n 0, 1) := by decide +kernel
theorem dX10_of_57 : decode cX10_of 57 = .ok (.getfield 22, 3) := by decide +kernel
theorem dX10_of_60 : decode cX10_of 60 = .ok (.iload_n 1, 1) := by decide +kernel
theorem dX10_of_61 : decode cX10_of 61 = .ok (.iaload, 1) := by decide +kernel
theorem dX10_of_62 : decode cX10_of 62 = .ok (.ireturn, 1) := by decide +kernel
theorem dX10_of_63 : decode cX10_of 63 = .ok (.aload_n 0, 1) := by decide +kernel
theorem dX10_of_64 : decode cX10_of 64 = .ok (.getfield 26, 3) := by decide +kernel
theorem dX10_of_67 : decode cX10_of 67 = .ok (.iload_n 1, 1) := by decide +kernel
theorem dX10_of_68 : decode cX10_of 68 = .ok (.iaload, 1) := by decide +kernel
theorem dX10_of_69 : decode cX10_of 69 = .ok (.ireturn, 1) := by decide +kernel
theorem dX10_of_70 : decode cX10_of 70 = .ok (.aload_n 0, 1) := by decide +kernel
theorem dX10_of_71 : decode cX10_of 71 = .ok (.getfield 29, 3) := by decide +kernel
theorem dX10_of_74 : decode cX10_of 74 = .ok (.iload_n 1, 1) := by decide +kernel
theorem dX10_of_75 : decode cX10_of 75 = .ok (.iaload, 1) := by decide +kernel
theorem dX10_of_76 : decode cX10_of 76 = .ok (.ireturn, 1) := by decide +kernel
theorem dX10_of_77 : decode cX10_of 77 = .ok (.aload_n 0, 1) := by decide +kernel
theorem dX10_of_78 : decode cX10_of 78 = .ok (.iload_n 1, 1) := by decide +kernel
theorem dX10_of_79 : decode cX10_of 79 = .ok (.invokevirtual 269, 3) := by decide +kernel
theorem dX10_of_82 : decode cX10_of 82 = .ok (.ireturn, 1) := by decide +kernel
theorem dX10_of_83 : decode cX10_of 83 = .ok (.aload_n 0, 1) := by decide +kernel
theorem dX10_of_84 : decode cX10_of 84 = .ok (.iload_n 1, 1) := by decide +kernel
theorem dX10_of_85 : decode cX10_of 85 = .ok (.aload_n 0, 1) := by decide +kernel
theorem dX10_of_86 : decode cX10_of 86 = .ok (.getfield 19, 3) := by decide +kernel
theorem dX10_of_89 : decode cX10_of 89 = .ok (.aload_n 0, 1) := by decide +kernel
theorem dX10_of_90 : decode cX10_of 90 = .ok (.getfield 13, 3) := by decide +kernel
theorem dX10_of_93 : decode cX10_of 93 = .ok (.invokevirtual 265, 3) := by decide +kernel
theorem dX10_of_96 : decode cX10_of 96 = .ok (.ireturn, 1) := by decide +kernel
theorem dX10_of_97 : decode cX10_of 97 = .ok (.aload_n 0, 1) := by decide +kernel
theorem dX10_of_98 : decode cX10_of 98 = .ok (.iconst 2, 1) := by decide +kernel
theorem dX10_of_99 : decode cX10_of 99 = .ok (.iload_n 1, 1) := by decide +kernel
theorem dX10_of_100 : decode cX10_of 100 = .ok (.aload_n 0, 1) := by decide +kernel
theorem dX10_of_101 : decode cX10_of 101 = .ok (.getfield 19, 3) := by decide +kernel
theorem dX10_of_104 : decode cX10_of 104 = .ok (.aload_n 0, 1) := by decide +kernel
theorem dX10_of_105 : decode cX10_of 105 = .ok (.getfield 13, 3) := by decide +kernel
theorem dX10_of_108 : decode cX10_of 108 = .ok (.invokevirtual 259, 3) := by decide +kernel
theorem dX10_of_111 : decode cX10_of 111 = .ok (.ireturn, 1) := by decide +kernel
theorem dX10_of_112 : decode cX10_of 112 = .ok (.aload_n 0, 1) := by decide +kernel
theorem dX10_of_113 : decode cX10_of 113 = .ok (.iload_n 1, 1) := by decide +kernel
theorem dX10_of_114 : decode cX10_of 114 = .ok (.aload_n 0, 1) := by decide +kernel
theorem dX10_of_115 : decode cX10_of 115 = .ok (.getfield 19, 3) := by decide +kernel
theorem dX10_of_118 : decode cX10_of 118 = .ok (.aload_n 0, 1) := by decide +kernel
theorem dX10_of_119 : decode cX10_of 119 = .ok (.getfield 13, 3) := by decide +kernel
theorem dX10_of_122 : decode cX10_of 122 = .ok (.invokevirtual 272, 3) := by decide +kernel
theorem dX10_of_125 : decode cX10_of 125 = .ok (.ifCond .eq 7, 3) := by decide +kernel
theorem dX10_of_128 : decode cX10_of 128 = .ok (.iconst 1, 1) := by decide +kernel
theorem dX10_of_129 : decode cX10_of 129 = .ok (.goto 4, 3) := by decide +kernel
theorem dX10_of_132 : decode cX10_of 132 = .ok (.iconst 0, 1) := by decide +kernel
theorem dX10_of_133 : decode cX10_of 133 = .ok (.ireturn, 1) := by decide +kernel
theorem dX10_of_134 : decode cX10_of 134 = .ok (.sipush (-10001), 3) := by decide +kernel
theorem dX10_of_137 : decode cX10_of 137 = .ok (.ireturn, 1) := by decide +kernel
theorem dX10_told_0 : decode cX10_told 0 = .ok (.iload_n 1, 1) := by decide +kernel
theorem dX10_told_1 : decode cX10_told 1 = .ok (.tableswitch 62 0 4 #[35, 40, 47, 52, 57], 35) := by decide +kernel
theorem dX10_told_36 : decode cX10_told 36 = .ok (.aload_n 0, 1) := by decide +kernel
theorem dX10_told_37 : decode cX10_told 37 = .ok (.invokevirtual 262, 3) := by decide +kernel
theorem dX10_told_40 : decode cX10_told 40 = .ok (.ireturn, 1) := by decide +kernel
theorem dX10_told_41 : decode cX10_told 41 = .ok (.aload_n 0, 1) := by decide +kernel
theorem dX10_told_42 : decode cX10_told 42 = .ok (.iconst 3, 1) := by decide +kernel
theorem dX10_told_43 : decode cX10_told 43 = .ok (.iconst 1, 1) := by decide +kernel
theorem dX10_told_44 : decode cX10_told 44 = .ok (.invokevirtual 244, 3) := by decide +kernel
theorem dX10_told_47 : decode cX10_told 47 = .ok (.ireturn, 1) := by decide +kernel
theorem dX10_told_48 : decode cX10_told 48 = .ok (.aload_n 0, 1) := by decide +kernel
theorem dX10_told_49 : decode cX10_told 49 = .ok (.getfield 13, 3) := by decide +kernel
theorem dX10_told_52 : decode cX10_told 52 = .ok (.ireturn, 1) := by decide +kernel
theorem dX10_told_53 : decode cX10_told 53 = .ok (.aload_n 0, 1) := by decide +kernel
theorem dX10_told_54 : decode cX10_told 54 = .ok (.getfield 16, 3) := by decide +kernel
theorem dX10_told_57 : decode cX10_told 57 = .ok (.ireturn, 1) := by decide +kernel
theorem dX10_told_58 : decode cX10_told 58 = .ok (.aload_n 0, 1) := by decide +kernel
theorem dX10_told_59 : decode cX10_told 59 = .ok (.getfield 19, 3) := by decide +kernel
theorem dX10_told_62 : decode cX10_told 62 = .ok (.ireturn, 1) := by decide +kernel
theorem dX10_told_63 : decode cX10_told 63 = .ok (.iconst (-1), 1) := by decide +kernel
theorem dX10_told_64 : decode cX10_told 64 = .ok (.ireturn, 1) := by decide +kernel
theorem dX10_wake_0 : decode cX10_wake 0 = .ok (.aload_n 0, 1) := by decide +kernel
theorem dX10_wake_1 : decode cX10_wake 1 = .ok (.iload_n 1, 1) := by decide +kernel
theorem dX10_wake_2 : decode cX10_wake 2 = .ok (.invokevirtual 281, 3) := by decide +kernel
theorem dX10_wake_5 : decode cX10_wake 5 = .ok (.ifCond .ne 5, 3) := by decide +kernel
theorem dX10_wake_8 : decode cX10_wake 8 = .ok (.iconst (-1), 1) := by decide +kernel
theorem dX10_wake_9 : decode cX10_wake 9 = .ok (.ireturn, 1) := by decide +kernel
theorem dX10_wake_10 : decode cX10_wake 10 = .ok (.aload_n 0, 1) := by decide +kernel
theorem dX10_wake_11 : decode cX10_wake 11 = .ok (.aload_n 0, 1) := by decide +kernel
theorem dX10_wake_12 : decode cX10_wake 12 = .ok (.getfield 13, 3) := by decide +kernel
theorem dX10_wake_15 : decode cX10_wake 15 = .ok (.putfield 87, 3) := by decide +kernel
theorem dX10_wake_18 : decode cX10_wake 18 = .ok (.aload_n 0, 1) := by decide +kernel
theorem dX10_wake_19 : decode cX10_wake 19 = .ok (.getfield 19, 3) := by decide +kernel
theorem dX10_wake_22 : decode cX10_wake 22 = .ok (.sipush 9999, 3) := by decide +kernel
theorem dX10_wake_25 : decode cX10_wake 25 = .ok (.if_icmp .eq 15, 3) := by decide +kernel
theorem dX10_wake_28 : decode cX10_wake 28 = .ok (.aload_n 0, 1) := by decide +kernel
theorem dX10_wake_29 : decode cX10_wake 29 = .ok (.iload_n 1, 1) := by decide +kernel
theorem dX10_wake_30 : decode cX10_wake 30 = .ok (.aload_n 0, 1) := by decide +kernel
theorem dX10_wake_31 : decode cX10_wake 31 = .ok (.getfield 19, 3) := by decide +kernel
theorem dX10_wake_34 : decode cX10_wake 34 = .ok (.invokevirtual 284, 3) := by decide +kernel
theorem dX10_wake_37 : decode cX10_wake 37 = .ok (.ifCond .ne 6, 3) := by decide +kernel
theorem dX10_wake_40 : decode cX10_wake 40 = .ok (.bipush (-3), 2) := by decide +kernel
theorem dX10_wake_42 : decode cX10_wake 42 = .ok (.ireturn, 1) := by decide +kernel
theorem dX10_wake_43 : decode cX10_wake 43 = .ok (.aload_n 0, 1) := by decide +kernel
theorem dX10_wake_44 : decode cX10_wake 44 = .ok (.aload_n 0, 1) := by decide +kernel
theorem dX10_wake_45 : decode cX10_wake 45 = .ok (.getfield 87, 3) := by decide +kernel
theorem dX10_wake_48 : decode cX10_wake 48 = .ok (.putfield 13, 3) := by decide +kernel
theorem dX10_wake_51 : decode cX10_wake 51 = .ok (.aload_n 0, 1) := by decide +kernel
theorem dX10_wake_52 : decode cX10_wake 52 = .ok (.dup, 1) := by decide +kernel
theorem dX10_wake_53 : decode cX10_wake 53 = .ok (.getfield 16, 3) := by decide +kernel
theorem dX10_wake_56 : decode cX10_wake 56 = .ok (.aload_n 0, 1) := by decide +kernel
theorem dX10_wake_57 : decode cX10_wake 57 = .ok (.getfield 90, 3) := by decide +kernel
theorem dX10_wake_60 : decode cX10_wake 60 = .ok (.iadd, 1) := by decide +kernel
theorem dX10_wake_61 : decode cX10_wake 61 = .ok (.putfield 16, 3) := by decide +kernel
theorem dX10_wake_64 : decode cX10_wake 64 = .ok (.aload_n 0, 1) := by decide +kernel
theorem dX10_wake_65 : decode cX10_wake 65 = .ok (.getfield 29, 3) := by decide +kernel
theorem dX10_wake_68 : decode cX10_wake 68 = .ok (.iload_n 1, 1) := by decide +kernel
theorem dX10_wake_69 : decode cX10_wake 69 = .ok (.dup2, 1) := by decide +kernel
theorem dX10_wake_70 : decode cX10_wake 70 = .ok (.iaload, 1) := by decide +kernel
theorem dX10_wake_71 : decode cX10_wake 71 = .ok (.aload_n 0, 1) := by decide +kernel
theorem dX10_wake_72 : decode cX10_wake 72 = .ok (.getfield 93, 3) := by decide +kernel
theorem dX10_wake_75 : decode cX10_wake 75 = .ok (.iadd, 1) := by decide +kernel
theorem dX10_wake_76 : decode cX10_wake 76 = .ok (.iastore, 1) := by decide +kernel
theorem dX10_wake_77 : decode cX10_wake 77 = .ok (.aload_n 0, 1) := by decide +kernel
theorem dX10_wake_78 : decode cX10_wake 78 = .ok (.dup, 1) := by decide +kernel
theorem dX10_wake_79 : decode cX10_wake 79 = .ok (.getfield 19, 3) := by decide +kernel
theorem dX10_wake_82 : decode cX10_wake 82 = .ok (.iconst 1, 1) := by decide +kernel
theorem dX10_wake_83 : decode cX10_wake 83 = .ok (.iadd, 1) := by decide +kernel
theorem dX10_wake_84 : decode cX10_wake 84 = .ok (.putfield 19, 3) := by decide +kernel
theorem dX10_wake_87 : decode cX10_wake 87 = .ok (.aload_n 0, 1) := by decide +kernel
theorem dX10_wake_88 : decode cX10_wake 88 = .ok (.getfield 93, 3) := by decide +kernel
theorem dX10_wake_91 : decode cX10_wake 91 = .ok (.ireturn, 1) := by decide +kernel
theorem dX10_row_0 : decode cX10_row 0 = .ok (.iload_n 1, 1) := by decide +kernel
theorem dX10_row_1 : decode cX10_row 1 = .ok (.iconst (-1), 1) := by decide +kernel
theorem dX10_row_2 : decode cX10_row 2 = .ok (.if_icmp .ne 10, 3) := by decide +kernel
theorem dX10_row_5 : decode cX10_row 5 = .ok (.aload_n 0, 1) := by decide +kernel
theorem dX10_row_6 : decode cX10_row 6 = .ok (.iconst 0, 1) := by decide +kernel
theorem dX10_row_7 : decode cX10_row 7 = .ok (.putfield 96, 3) := by decide +kernel
theorem dX10_row_10 : decode cX10_row 10 = .ok (.iconst 0, 1) := by decide +kernel
theorem dX10_row_11 : decode cX10_row 11 = .ok (.ireturn, 1) := by decide +kernel
theorem dX10_row_12 : decode cX10_row 12 = .ok (.aload_n 0, 1) := by decide +kernel
theorem dX10_row_13 : decode cX10_row 13 = .ok (.iload_n 1, 1) := by decide +kernel
theorem dX10_row_14 : decode cX10_row 14 = .ok (.invokevirtual 281, 3) := by decide +kernel
theorem dX10_row_17 : decode cX10_row 17 = .ok (.ifCond .ne 5, 3) := by decide +kernel
theorem dX10_row_20 : decode cX10_row 20 = .ok (.iconst (-1), 1) := by decide +kernel
theorem dX10_row_21 : decode cX10_row 21 = .ok (.ireturn, 1) := by decide +kernel
theorem dX10_row_22 : decode cX10_row 22 = .ok (.aload_n 0, 1) := by decide +kernel
theorem dX10_row_23 : decode cX10_row 23 = .ok (.getfield 96, 3) := by decide +kernel
theorem dX10_row_26 : decode cX10_row 26 = .ok (.bipush 8, 2) := by decide +kernel
theorem dX10_row_28 : decode cX10_row 28 = .ok (.if_icmp .ne 6, 3) := by decide +kernel
theorem dX10_row_31 : decode cX10_row 31 = .ok (.bipush (-4), 2) := by decide +kernel
theorem dX10_row_33 : decode cX10_row 33 = .ok (.ireturn, 1) := by decide +kernel
theorem dX10_row_34 : decode cX10_row 34 = .ok (.aload_n 0, 1) := by decide +kernel
theorem dX10_row_35 : decode cX10_row 35 = .ok (.getfield 102, 3) := by decide +kernel
theorem dX10_row_38 : decode cX10_row 38 = .ok (.aload_n 0, 1) := by decide +kernel
theorem dX10_row_39 : decode cX10_row 39 = .ok (.getfield 96, 3) := by decide +kernel
theorem dX10_row_42 : decode cX10_row 42 = .ok (.iload_n 1, 1) := by decide +kernel
theorem dX10_row_43 : decode cX10_row 43 = .ok (.iastore, 1) := by decide +kernel
theorem dX10_row_44 : decode cX10_row 44 = .ok (.aload_n 0, 1) := by decide +kernel
theorem dX10_row_45 : decode cX10_row 45 = .ok (.dup, 1) := by decide +kernel
theorem dX10_row_46 : decode cX10_row 46 = .ok (.getfield 96, 3) := by decide +kernel
theorem dX10_row_49 : decode cX10_row 49 = .ok (.iconst 1, 1) := by decide +kernel
theorem dX10_row_50 : decode cX10_row 50 = .ok (.iadd, 1) := by decide +kernel
theorem dX10_row_51 : decode cX10_row 51 = .ok (.putfield 96, 3) := by decide +kernel
theorem dX10_row_54 : decode cX10_row 54 = .ok (.aload_n 0, 1) := by decide +kernel
theorem dX10_row_55 : decode cX10_row 55 = .ok (.getfield 96, 3) := by decide +kernel
theorem dX10_row_58 : decode cX10_row 58 = .ok (.ireturn, 1) := by decide +kernel
theorem dX10_goesRow_0 : decode cX10_goesRow 0 = .ok (.aload_n 0, 1) := by decide +kernel
theorem dX10_goesRow_1 : decode cX10_goesRow 1 = .ok (.iload_n 1, 1) := by decide +kernel
theorem dX10_goesRow_2 : decode cX10_goesRow 2 = .ok (.putfield 87, 3) := by decide +kernel
theorem dX10_goesRow_5 : decode cX10_goesRow 5 = .ok (.aload_n 0, 1) := by decide +kernel
theorem dX10_goesRow_6 : decode cX10_goesRow 6 = .ok (.iconst 0, 1) := by decide +kernel
theorem dX10_goesRow_7 : decode cX10_goesRow 7 = .ok (.putfield 99, 3) := by decide +kernel
theorem dX10_goesRow_10 : decode cX10_goesRow 10 = .ok (.iconst 0, 1) := by decide +kernel
theorem dX10_goesRow_11 : decode cX10_goesRow 11 = .ok (.istore_n 2, 1) := by decide +kernel
theorem dX10_goesRow_12 : decode cX10_goesRow 12 = .ok (.iload_n 2, 1) := by decide +kernel
theorem dX10_goesRow_13 : decode cX10_goesRow 13 = .ok (.bipush 6, 2) := by decide +kernel
theorem dX10_goesRow_15 : decode cX10_goesRow 15 = .ok (.if_icmp .ge 16, 3) := by decide +kernel
theorem dX10_goesRow_18 : decode cX10_goesRow 18 = .ok (.aload_n 0, 1) := by decide +kernel
theorem dX10_goesRow_19 : decode cX10_goesRow 19 = .ok (.getfield 105, 3) := by decide +kernel
theorem dX10_goesRow_22 : decode cX10_goesRow 22 = .ok (.iload_n 2, 1) := by decide +kernel
theorem dX10_goesRow_23 : decode cX10_goesRow 23 = .ok (.iconst 0, 1) := by decide +kernel
theorem dX10_goesRow_24 : decode cX10_goesRow 24 = .ok (.iastore, 1) := by decide +kernel
theorem dX10_goesRow_25 : decode cX10_goesRow 25 = .ok (.iinc 2 1, 3) := by decide +kernel
theorem dX10_goesRow_28 : decode cX10_goesRow 28 = .ok (.goto (-16), 3) := by decide +kernel
theorem dX10_goesRow_31 : decode cX10_goesRow 31 = .ok (.iconst 0, 1) := by decide +kernel
theorem dX10_goesRow_32 : decode cX10_goesRow 32 = .ok (.istore_n 2, 1) := by decide +kernel
theorem dX10_goesRow_33 : decode cX10_goesRow 33 = .ok (.iload_n 2, 1) := by decide +kernel
theorem dX10_goesRow_34 : decode cX10_goesRow 34 = .ok (.aload_n 0, 1) := by decide +kernel
theorem dX10_goesRow_35 : decode cX10_goesRow 35 = .ok (.getfield 96, 3) := by decide +kernel
theorem dX10_goesRow_38 : decode cX10_goesRow 38 = .ok (.if_icmp .ge 61, 3) := by decide +kernel
theorem dX10_goesRow_41 : decode cX10_goesRow 41 = .ok (.aload_n 0, 1) := by decide +kernel
theorem dX10_goesRow_42 : decode cX10_goesRow 42 = .ok (.aload_n 0, 1) := by decide +kernel
theorem dX10_goesRow_43 : decode cX10_goesRow 43 = .ok (.getfield 102, 3) := by decide +kernel
theorem dX10_goesRow_46 : decode cX10_goesRow 46 = .ok (.iload_n 2, 1) := by decide +kernel
theorem dX10_goesRow_47 : decode cX10_goesRow 47 = .ok (.iaload, 1) := by decide +kernel
theorem dX10_goesRow_48 : decode cX10_goesRow 48 = .ok (.aload_n 0, 1) := by decide +kernel
theorem dX10_goesRow_49 : decode cX10_goesRow 49 = .ok (.getfield 19, 3) := by decide +kernel
theorem dX10_goesRow_52 : decode cX10_goesRow 52 = .ok (.iload_n 2, 1) := by decide +kernel
theorem dX10_goesRow_53 : decode cX10_goesRow 53 = .ok (.iadd, 1) := by decide +kernel
theorem dX10_goesRow_54 : decode cX10_goesRow 54 = .ok (.invokevirtual 284, 3) := by decide +kernel
theorem dX10_goesRow_57 : decode cX10_goesRow 57 = .ok (.ifCond .ne 5, 3) := by decide +kernel
theorem dX10_goesRow_60 : decode cX10_goesRow 60 = .ok (.iconst 0, 1) := by decide +kernel
theorem dX10_goesRow_61 : decode cX10_goesRow 61 = .ok (.ireturn, 1) := by decide +kernel
theorem dX10_goesRow_62 : decode cX10_goesRow 62 = .ok (.aload_n 0, 1) := by decide +kernel
theorem dX10_goesRow_63 : decode cX10_goesRow 63 = .ok (.dup, 1) := by decide +kernel
theorem dX10_goesRow_64 : decode cX10_goesRow 64 = .ok (.getfield 99, 3) := by decide +kernel
theorem dX10_goesRow_67 : decode cX10_goesRow 67 = .ok (.aload_n 0, 1) := by decide +kernel
theorem dX10_goesRow_68 : decode cX10_goesRow 68 = .ok (.getfield 90, 3) := by decide +kernel
theorem dX10_goesRow_71 : decode cX10_goesRow 71 = .ok (.iadd, 1) := by decide +kernel
theorem dX10_goesRow_72 : decode cX10_goesRow 72 = .ok (.putfield 99, 3) := by decide +kernel
theorem dX10_goesRow_75 : decode cX10_goesRow 75 = .ok (.aload_n 0, 1) := by decide +kernel
theorem dX10_goesRow_76 : decode cX10_goesRow 76 = .ok (.getfield 105, 3) := by decide +kernel
theorem dX10_goesRow_79 : decode cX10_goesRow 79 = .ok (.aload_n 0, 1) := by decide +kernel
theorem dX10_goesRow_80 : decode cX10_goesRow 80 = .ok (.getfield 102, 3) := by decide +kernel
theorem dX10_goesRow_83 : decode cX10_goesRow 83 = .ok (.iload_n 2, 1) := by decide +kernel
theorem dX10_goesRow_84 : decode cX10_goesRow 84 = .ok (.iaload, 1) := by decide +kernel
theorem dX10_goesRow_85 : decode cX10_goesRow 85 = .ok (.dup2, 1) := by decide +kernel
theorem dX10_goesRow_86 : decode cX10_goesRow 86 = .ok (.iaload, 1) := by decide +kernel
theorem dX10_goesRow_87 : decode cX10_goesRow 87 = .ok (.aload_n 0, 1) := by decide +kernel
theorem dX10_goesRow_88 : decode cX10_goesRow 88 = .ok (.getfield 93, 3) := by decide +kernel
theorem dX10_goesRow_91 : decode cX10_goesRow 91 = .ok (.iadd, 1) := by decide +kernel
theorem dX10_goesRow_92 : decode cX10_goesRow 92 = .ok (.iastore, 1) := by decide +kernel
theorem dX10_goesRow_93 : decode cX10_goesRow 93 = .ok (.iinc 2 1, 3) := by decide +kernel
theorem dX10_goesRow_96 : decode cX10_goesRow 96 = .ok (.goto (-63), 3) := by decide +kernel
theorem dX10_goesRow_99 : decode cX10_goesRow 99 = .ok (.iconst 1, 1) := by decide +kernel
theorem dX10_goesRow_100 : decode cX10_goesRow 100 = .ok (.ireturn, 1) := by decide +kernel
theorem dX10_isNight_0 : decode cX10_isNight 0 = .ok (.aload_n 0, 1) := by decide +kernel
theorem dX10_isNight_1 : decode cX10_isNight 1 = .ok (.iload_n 1, 1) := by decide +kernel
theorem dX10_isNight_2 : decode cX10_isNight 2 = .ok (.invokevirtual 287, 3) := by decide +kernel
theorem dX10_isNight_5 : decode cX10_isNight 5 = .ok (.ifCond .eq 39, 3) := by decide +kernel
theorem dX10_isNight_8 : decode cX10_isNight 8 = .ok (.aload_n 0, 1) := by decide +kernel
theorem dX10_isNight_9 : decode cX10_isNight 9 = .ok (.getfield 87, 3) := by decide +kernel
theorem dX10_isNight_12 : decode cX10_isNight 12 = .ok (.aload_n 0, 1) := by decide +kernel
theorem dX10_isNight_13 : decode cX10_isNight 13 = .ok (.iconst 3, 1) := by decide +kernel
theorem dX10_isNight_14 : decode cX10_isNight 14 = .ok (.iconst 1, 1) := by decide +kernel
theorem dX10_isNight_15 : decode cX10_isNight 15 = .ok (.invokevirtual 244, 3) := by decide +kernel
theorem dX10_isNight_18 : decode cX10_isNight 18 = .ok (.if_icmp .lt 26, 3) := by decide +kernel
theorem dX10_isNight_21 : decode cX10_isNight 21 = .ok (.aload_n 0, 1) := by decide +kernel
theorem dX10_isNight_22 : decode cX10_isNight 22 = .ok (.getfield 87, 3) := by decide +kernel
theorem dX10_isNight_25 : decode cX10_isNight 25 = .ok (.aload_n 0, 1) := by decide +kernel
theorem dX10_isNight_26 : decode cX10_isNight 26 = .ok (.iconst 3, 1) := by decide +kernel
theorem dX10_isNight_27 : decode cX10_isNight 27 = .ok (.iconst 1, 1) := by decide +kernel
theorem dX10_isNight_28 : decode cX10_isNight 28 = .ok (.invokevirtual 244, 3) := by decide +kernel
theorem dX10_isNight_31 : decode cX10_isNight 31 = .ok (.isub, 1) := by decide +kernel
theorem dX10_isNight_32 : decode cX10_isNight 32 = .ok (.aload_n 0, 1) := by decide +kernel
theorem dX10_isNight_33 : decode cX10_isNight 33 = .ok (.invokevirtual 262, 3) := by decide +kernel
theorem dX10_isNight_36 : decode cX10_isNight 36 = .ok (.irem, 1) := by decide +kernel
theorem dX10_isNight_37 : decode cX10_isNight 37 = .ok (.ifCond .ne 7, 3) := by decide +kernel
theorem dX10_isNight_40 : decode cX10_isNight 40 = .ok (.iconst 1, 1) := by decide +kernel
theorem dX10_isNight_41 : decode cX10_isNight 41 = .ok (.goto 4, 3) := by decide +kernel
theorem dX10_isNight_44 : decode cX10_isNight 44 = .ok (.iconst 0, 1) := by decide +kernel
theorem dX10_isNight_45 : decode cX10_isNight 45 = .ok (.ireturn, 1) := by decide +kernel
theorem dX10_night_0 : decode cX10_night 0 = .ok (.aload_n 0, 1) := by decide +kernel
theorem dX10_night_1 : decode cX10_night 1 = .ok (.iload_n 1, 1) := by decide +kernel
theorem dX10_night_2 : decode cX10_night 2 = .ok (.invokevirtual 184, 3) := by decide +kernel
theorem dX10_night_5 : decode cX10_night 5 = .ok (.ifCond .ne 8, 3) := by decide +kernel
theorem dX10_night_8 : decode cX10_night 8 = .ok (.bipush (-2), 2) := by decide +kernel
theorem dX10_night_10 : decode cX10_night 10 = .ok (.goto 16, 3) := by decide +kernel
theorem dX10_night_13 : decode cX10_night 13 = .ok (.aload_n 0, 1) := by decide +kernel
theorem dX10_night_14 : decode cX10_night 14 = .ok (.iload_n 1, 1) := by decide +kernel
theorem dX10_night_15 : decode cX10_night 15 = .ok (.invokevirtual 290, 3) := by decide +kernel
theorem dX10_night_18 : decode cX10_night 18 = .ok (.ifCond .eq 7, 3) := by decide +kernel
theorem dX10_night_21 : decode cX10_night 21 = .ok (.iconst 1, 1) := by decide +kernel
theorem dX10_night_22 : decode cX10_night 22 = .ok (.goto 4, 3) := by decide +kernel
theorem dX10_night_25 : decode cX10_night 25 = .ok (.iconst 0, 1) := by decide +kernel
theorem dX10_night_26 : decode cX10_night 26 = .ok (.ireturn, 1) := by decide +kernel
theorem dX10_least_0 : decode cX10_least 0 = .ok (.aload_n 0, 1) := by decide +kernel
theorem dX10_least_1 : decode cX10_least 1 = .ok (.iload_n 1, 1) := by decide +kernel
theorem dX10_least_2 : decode cX10_least 2 = .ok (.iconst 0, 1) := by decide +kernel
theorem dX10_least_3 : decode cX10_least 3 = .ok (.sipush 9999, 3) := by decide +kernel
theorem dX10_least_6 : decode cX10_least 6 = .ok (.invokevirtual 179, 3) := by decide +kernel
theorem dX10_least_9 : decode cX10_least 9 = .ok (.ifCond .ne 6, 3) := by decide +kernel
theorem dX10_least_12 : decode cX10_least 12 = .ok (.bipush (-2), 2) := by decide +kernel
theorem dX10_least_14 : decode cX10_least 14 = .ok (.ireturn, 1) := by decide +kernel
theorem dX10_least_15 : decode cX10_least 15 = .ok (.iload_n 1, 1) := by decide +kernel
theorem dX10_least_16 : decode cX10_least 16 = .ok (.istore_n 2, 1) := by decide +kernel
theorem dX10_least_17 : decode cX10_least 17 = .ok (.iload_n 2, 1) := by decide +kernel
theorem dX10_least_18 : decode cX10_least 18 = .ok (.iload_n 1, 1) := by decide +kernel
theorem dX10_least_19 : decode cX10_least 19 = .ok (.sipush 10000, 3) := by decide +kernel
theorem dX10_least_22 : decode cX10_least 22 = .ok (.iadd, 1) := by decide +kernel
theorem dX10_least_23 : decode cX10_least 23 = .ok (.if_icmp .ge 19, 3) := by decide +kernel
theorem dX10_least_26 : decode cX10_least 26 = .ok (.aload_n 0, 1) := by decide +kernel
theorem dX10_least_27 : decode cX10_least 27 = .ok (.iload_n 2, 1) := by decide +kernel
theorem dX10_least_28 : decode cX10_least 28 = .ok (.invokevirtual 290, 3) := by decide +kernel
theorem dX10_least_31 : decode cX10_least 31 = .ok (.ifCond .eq 5, 3) := by decide +kernel
theorem dX10_least_34 : decode cX10_least 34 = .ok (.iload_n 2, 1) := by decide +kernel
theorem dX10_least_35 : decode cX10_least 35 = .ok (.ireturn, 1) := by decide +kernel
theorem dX10_least_36 : decode cX10_least 36 = .ok (.iinc 2 1, 3) := by decide +kernel
theorem dX10_least_39 : decode cX10_least 39 = .ok (.goto (-22), 3) := by decide +kernel
theorem dX10_least_42 : decode cX10_least 42 = .ok (.bipush (-5), 2) := by decide +kernel
theorem dX10_least_44 : decode cX10_least 44 = .ok (.ireturn, 1) := by decide +kernel
theorem dX10_all_0 : decode cX10_all 0 = .ok (.aload_n 0, 1) := by decide +kernel
theorem dX10_all_1 : decode cX10_all 1 = .ok (.iload_n 1, 1) := by decide +kernel
theorem dX10_all_2 : decode cX10_all 2 = .ok (.iconst 1, 1) := by decide +kernel
theorem dX10_all_3 : decode cX10_all 3 = .ok (.sipush 9999, 3) := by decide +kernel
theorem dX10_all_6 : decode cX10_all 6 = .ok (.invokevirtual 179, 3) := by decide +kernel
theorem dX10_all_9 : decode cX10_all 9 = .ok (.ifCond .ne 6, 3) := by decide +kernel
theorem dX10_all_12 : decode cX10_all 12 = .ok (.bipush (-2), 2) := by decide +kernel
theorem dX10_all_14 : decode cX10_all 14 = .ok (.ireturn, 1) := by decide +kernel
theorem dX10_all_15 : decode cX10_all 15 = .ok (.iconst 0, 1) := by decide +kernel
theorem dX10_all_16 : decode cX10_all 16 = .ok (.istore_n 2, 1) := by decide +kernel
theorem dX10_all_17 : decode cX10_all 17 = .ok (.iconst 0, 1) := by decide +kernel
theorem dX10_all_18 : decode cX10_all 18 = .ok (.istore_n 3, 1) := by decide +kernel
theorem dX10_all_19 : decode cX10_all 19 = .ok (.iload_n 3, 1) := by decide +kernel
theorem dX10_all_20 : decode cX10_all 20 = .ok (.iload_n 1, 1) := by decide +kernel
theorem dX10_all_21 : decode cX10_all 21 = .ok (.if_icmp .ge 25, 3) := by decide +kernel
theorem dX10_all_24 : decode cX10_all 24 = .ok (.iload_n 2, 1) := by decide +kernel
theorem dX10_all_25 : decode cX10_all 25 = .ok (.aload_n 0, 1) := by decide +kernel
theorem dX10_all_26 : decode cX10_all 26 = .ok (.iload_n 3, 1) := by decide +kernel
theorem dX10_all_27 : decode cX10_all 27 = .ok (.invokevirtual 290, 3) := by decide +kernel
theorem dX10_all_30 : decode cX10_all 30 = .ok (.ifCond .eq 7, 3) := by decide +kernel
theorem dX10_all_33 : decode cX10_all 33 = .ok (.iconst 1, 1) := by decide +kernel
theorem dX10_all_34 : decode cX10_all 34 = .ok (.goto 4, 3) := by decide +kernel
theorem dX10_all_37 : decode cX10_all 37 = .ok (.iconst 0, 1) := by decide +kernel
theorem dX10_all_38 : decode cX10_all 38 = .ok (.iadd, 1) := by decide +kernel
theorem dX10_all_39 : decode cX10_all 39 = .ok (.istore_n 2, 1) := by decide +kernel
theorem dX10_all_40 : decode cX10_all 40 = .ok (.iinc 3 1, 3) := by decide +kernel
theorem dX10_all_43 : decode cX10_all 43 = .ok (.goto (-24), 3) := by decide +kernel
theorem dX10_all_46 : decode cX10_all 46 = .ok (.iload_n 2, 1) := by decide +kernel
theorem dX10_all_47 : decode cX10_all 47 = .ok (.ireturn, 1) := by decide +kernel
theorem dX10_greatest_0 : decode cX10_greatest 0 = .ok (.aload_n 0, 1) := by decide +kernel
theorem dX10_greatest_1 : decode cX10_greatest 1 = .ok (.iload_n 1, 1) := by decide +kernel
theorem dX10_greatest_2 : decode cX10_greatest 2 = .ok (.iconst 1, 1) := by decide +kernel
theorem dX10_greatest_3 : decode cX10_greatest 3 = .ok (.sipush 9999, 3) := by decide +kernel
theorem dX10_greatest_6 : decode cX10_greatest 6 = .ok (.invokevirtual 179, 3) := by decide +kernel
theorem dX10_greatest_9 : decode cX10_greatest 9 = .ok (.ifCond .ne 6, 3) := by decide +kernel
theorem dX10_greatest_12 : decode cX10_greatest 12 = .ok (.bipush (-2), 2) := by decide +kernel
theorem dX10_greatest_14 : decode cX10_greatest 14 = .ok (.ireturn, 1) := by decide +kernel
theorem dX10_greatest_15 : decode cX10_greatest 15 = .ok (.iload_n 1, 1) := by decide +kernel
theorem dX10_greatest_16 : decode cX10_greatest 16 = .ok (.iconst 1, 1) := by decide +kernel
theorem dX10_greatest_17 : decode cX10_greatest 17 = .ok (.isub, 1) := by decide +kernel
theorem dX10_greatest_18 : decode cX10_greatest 18 = .ok (.istore_n 2, 1) := by decide +kernel
theorem dX10_greatest_19 : decode cX10_greatest 19 = .ok (.iload_n 2, 1) := by decide +kernel
theorem dX10_greatest_20 : decode cX10_greatest 20 = .ok (.ifCond .lt 19, 3) := by decide +kernel
theorem dX10_greatest_23 : decode cX10_greatest 23 = .ok (.aload_n 0, 1) := by decide +kernel
theorem dX10_greatest_24 : decode cX10_greatest 24 = .ok (.iload_n 2, 1) := by decide +kernel
theorem dX10_greatest_25 : decode cX10_greatest 25 = .ok (.invokevirtual 290, 3) := by decide +kernel
theorem dX10_greatest_28 : decode cX10_greatest 28 = .ok (.ifCond .eq 5, 3) := by decide +kernel
theorem dX10_greatest_31 : decode cX10_greatest 31 = .ok (.iload_n 2, 1) := by decide +kernel
theorem dX10_greatest_32 : decode cX10_greatest 32 = .ok (.ireturn, 1) := by decide +kernel
theorem dX10_greatest_33 : decode cX10_greatest 33 = .ok (.iinc 2 (-1), 3) := by decide +kernel
theorem dX10_greatest_36 : decode cX10_greatest 36 = .ok (.goto (-17), 3) := by decide +kernel
theorem dX10_greatest_39 : decode cX10_greatest 39 = .ok (.bipush (-5), 2) := by decide +kernel
theorem dX10_greatest_41 : decode cX10_greatest 41 = .ok (.ireturn, 1) := by decide +kernel
theorem dX10_left_0 : decode cX10_left 0 = .ok (.aload_n 0, 1) := by decide +kernel
theorem dX10_left_1 : decode cX10_left 1 = .ok (.iload_n 2, 1) := by decide +kernel
theorem dX10_left_2 : decode cX10_left 2 = .ok (.bipush (-2), 2) := by decide +kernel
theorem dX10_left_4 : decode cX10_left 4 = .ok (.iconst (-1), 1) := by decide +kernel
theorem dX10_left_5 : decode cX10_left 5 = .ok (.invokevirtual 179, 3) := by decide +kernel
theorem dX10_left_8 : decode cX10_left 8 = .ok (.ifCond .ne 15, 3) := by decide +kernel
theorem dX10_left_11 : decode cX10_left 11 = .ok (.aload_n 0, 1) := by decide +kernel
theorem dX10_left_12 : decode cX10_left 12 = .ok (.iload_n 2, 1) := by decide +kernel
theorem dX10_left_13 : decode cX10_left 13 = .ok (.invokevirtual 281, 3) := by decide +kernel
theorem dX10_left_16 : decode cX10_left 16 = .ok (.ifCond .ne 7, 3) := by decide +kernel
theorem dX10_left_19 : decode cX10_left 19 = .ok (.sipush (-10001), 3) := by decide +kernel
theorem dX10_left_22 : decode cX10_left 22 = .ok (.ireturn, 1) := by decide +kernel
theorem dX10_left_23 : decode cX10_left 23 = .ok (.aload_n 0, 1) := by decide +kernel
theorem dX10_left_24 : decode cX10_left 24 = .ok (.iload_n 1, 1) := by decide +kernel
theorem dX10_left_25 : decode cX10_left 25 = .ok (.invokevirtual 184, 3) := by decide +kernel
theorem dX10_left_28 : decode cX10_left 28 = .ok (.ifCond .ne 7, 3) := by decide +kernel
theorem dX10_left_31 : decode cX10_left 31 = .ok (.sipush (-10002), 3) := by decide +kernel
theorem dX10_left_34 : decode cX10_left 34 = .ok (.ireturn, 1) := by decide +kernel
theorem dX10_left_35 : decode cX10_left 35 = .ok (.aload_n 0, 1) := by decide +kernel
theorem dX10_left_36 : decode cX10_left 36 = .ok (.iload_n 1, 1) := by decide +kernel
theorem dX10_left_37 : decode cX10_left 37 = .ok (.invokevirtual 287, 3) := by decide +kernel
theorem dX10_left_40 : decode cX10_left 40 = .ok (.ifCond .ne 6, 3) := by decide +kernel
theorem dX10_left_43 : decode cX10_left 43 = .ok (.bipush (-5), 2) := by decide +kernel
theorem dX10_left_45 : decode cX10_left 45 = .ok (.ireturn, 1) := by decide +kernel
theorem dX10_left_46 : decode cX10_left 46 = .ok (.iload_n 2, 1) := by decide +kernel
theorem dX10_left_47 : decode cX10_left 47 = .ok (.iconst (-1), 1) := by decide +kernel
theorem dX10_left_48 : decode cX10_left 48 = .ok (.if_icmp .ne 10, 3) := by decide +kernel
theorem dX10_left_51 : decode cX10_left 51 = .ok (.aload_n 0, 1) := by decide +kernel
theorem dX10_left_52 : decode cX10_left 52 = .ok (.getfield 87, 3) := by decide +kernel
theorem dX10_left_55 : decode cX10_left 55 = .ok (.goto 22, 3) := by decide +kernel
theorem dX10_left_58 : decode cX10_left 58 = .ok (.iload_n 2, 1) := by decide +kernel
theorem dX10_left_59 : decode cX10_left 59 = .ok (.bipush (-2), 2) := by decide +kernel
theorem dX10_left_61 : decode cX10_left 61 = .ok (.if_icmp .ne 10, 3) := by decide +kernel
theorem dX10_left_64 : decode cX10_left 64 = .ok (.aload_n 0, 1) := by decide +kernel
theorem dX10_left_65 : decode cX10_left 65 = .ok (.getfield 99, 3) := by decide +kernel
theorem dX10_left_68 : decode cX10_left 68 = .ok (.goto 9, 3) := by decide +kernel
theorem dX10_left_71 : decode cX10_left 71 = .ok (.aload_n 0, 1) := by decide +kernel
theorem dX10_left_72 : decode cX10_left 72 = .ok (.getfield 105, 3) := by decide +kernel
theorem dX10_left_75 : decode cX10_left 75 = .ok (.iload_n 2, 1) := by decide +kernel
theorem dX10_left_76 : decode cX10_left 76 = .ok (.iaload, 1) := by decide +kernel
theorem dX10_left_77 : decode cX10_left 77 = .ok (.ireturn, 1) := by decide +kernel
theorem dX10_was_0 : decode cX10_was 0 = .ok (.aload_n 0, 1) := by decide +kernel
theorem dX10_was_1 : decode cX10_was 1 = .ok (.iload_n 1, 1) := by decide +kernel
theorem dX10_was_2 : decode cX10_was 2 = .ok (.iconst 0, 1) := by decide +kernel
theorem dX10_was_3 : decode cX10_was 3 = .ok (.sipush 9999, 3) := by decide +kernel
theorem dX10_was_6 : decode cX10_was 6 = .ok (.invokevirtual 179, 3) := by decide +kernel
theorem dX10_was_9 : decode cX10_was 9 = .ok (.ifCond .ne 6, 3) := by decide +kernel
theorem dX10_was_12 : decode cX10_was 12 = .ok (.bipush (-2), 2) := by decide +kernel
theorem dX10_was_14 : decode cX10_was 14 = .ok (.ireturn, 1) := by decide +kernel
theorem dX10_was_15 : decode cX10_was 15 = .ok (.iconst 0, 1) := by decide +kernel
theorem dX10_was_16 : decode cX10_was 16 = .ok (.istore_n 2, 1) := by decide +kernel
theorem dX10_was_17 : decode cX10_was 17 = .ok (.iload_n 2, 1) := by decide +kernel
theorem dX10_was_18 : decode cX10_was 18 = .ok (.sipush 10000, 3) := by decide +kernel
theorem dX10_was_21 : decode cX10_was 21 = .ok (.if_icmp .ge 27, 3) := by decide +kernel
theorem dX10_was_24 : decode cX10_was 24 = .ok (.aload_n 0, 1) := by decide +kernel
theorem dX10_was_25 : decode cX10_was 25 = .ok (.iload_n 2, 1) := by decide +kernel
theorem dX10_was_26 : decode cX10_was 26 = .ok (.invokevirtual 287, 3) := by decide +kernel
theorem dX10_was_29 : decode cX10_was 29 = .ok (.ifCond .eq 13, 3) := by decide +kernel
theorem dX10_was_32 : decode cX10_was 32 = .ok (.aload_n 0, 1) := by decide +kernel
theorem dX10_was_33 : decode cX10_was 33 = .ok (.getfield 87, 3) := by decide +kernel
theorem dX10_was_36 : decode cX10_was 36 = .ok (.iload_n 1, 1) := by decide +kernel
theorem dX10_was_37 : decode cX10_was 37 = .ok (.if_icmp .ne 5, 3) := by decide +kernel
theorem dX10_was_40 : decode cX10_was 40 = .ok (.iload_n 2, 1) := by decide +kernel
theorem dX10_was_41 : decode cX10_was 41 = .ok (.ireturn, 1) := by decide +kernel
theorem dX10_was_42 : decode cX10_was 42 = .ok (.iinc 2 1, 3) := by decide +kernel
theorem dX10_was_45 : decode cX10_was 45 = .ok (.goto (-28), 3) := by decide +kernel
theorem dX10_was_48 : decode cX10_was 48 = .ok (.bipush (-5), 2) := by decide +kernel
theorem dX10_was_50 : decode cX10_was 50 = .ok (.ireturn, 1) := by decide +kernel
theorem dX10_layUp_0 : decode cX10_layUp 0 = .ok (.iload_n 2, 1) := by decide +kernel
theorem dX10_layUp_1 : decode cX10_layUp 1 = .ok (.istore_n 3, 1) := by decide +kernel
theorem dX10_layUp_2 : decode cX10_layUp 2 = .ok (.iconst 0, 1) := by decide +kernel
theorem dX10_layUp_3 : decode cX10_layUp 3 = .ok (.istore 4, 2) := by decide +kernel
theorem dX10_layUp_5 : decode cX10_layUp 5 = .ok (.iload_n 1, 1) := by decide +kernel
theorem dX10_layUp_6 : decode cX10_layUp 6 = .ok (.iconst 1, 1) := by decide +kernel
theorem dX10_layUp_7 : decode cX10_layUp 7 = .ok (.isub, 1) := by decide +kernel
theorem dX10_layUp_8 : decode cX10_layUp 8 = .ok (.istore 5, 2) := by decide +kernel
theorem dX10_layUp_10 : decode cX10_layUp 10 = .ok (.iload 5, 2) := by decide +kernel
theorem dX10_layUp_12 : decode cX10_layUp 12 = .ok (.ifCond .lt 61, 3) := by decide +kernel
theorem dX10_layUp_15 : decode cX10_layUp 15 = .ok (.aload_n 0, 1) := by decide +kernel
theorem dX10_layUp_16 : decode cX10_layUp 16 = .ok (.getfield 108, 3) := by decide +kernel
theorem dX10_layUp_19 : decode cX10_layUp 19 = .ok (.iload 5, 2) := by decide +kernel
theorem dX10_layUp_21 : decode cX10_layUp 21 = .ok (.iload_n 3, 1) := by decide +kernel
theorem dX10_layUp_22 : decode cX10_layUp 22 = .ok (.aload_n 0, 1) := by decide +kernel
theorem dX10_layUp_23 : decode cX10_layUp 23 = .ok (.getfield 7, 3) := by decide +kernel
theorem dX10_layUp_26 : decode cX10_layUp 26 = .ok (.irem, 1) := by decide +kernel
theorem dX10_layUp_27 : decode cX10_layUp 27 = .ok (.iastore, 1) := by decide +kernel
theorem dX10_layUp_28 : decode cX10_layUp 28 = .ok (.iload_n 3, 1) := by decide +kernel
theorem dX10_layUp_29 : decode cX10_layUp 29 = .ok (.aload_n 0, 1) := by decide +kernel
theorem dX10_layUp_30 : decode cX10_layUp 30 = .ok (.getfield 7, 3) := by decide +kernel
theorem dX10_layUp_33 : decode cX10_layUp 33 = .ok (.idiv, 1) := by decide +kernel
theorem dX10_layUp_34 : decode cX10_layUp 34 = .ok (.istore_n 3, 1) := by decide +kernel
theorem dX10_layUp_35 : decode cX10_layUp 35 = .ok (.iload 4, 2) := by decide +kernel
theorem dX10_layUp_37 : decode cX10_layUp 37 = .ok (.aload_n 0, 1) := by decide +kernel
theorem dX10_layUp_38 : decode cX10_layUp 38 = .ok (.getfield 108, 3) := by decide +kernel
theorem dX10_layUp_41 : decode cX10_layUp 41 = .ok (.iload 5, 2) := by decide +kernel
theorem dX10_layUp_43 : decode cX10_layUp 43 = .ok (.iaload, 1) := by decide +kernel
theorem dX10_layUp_44 : decode cX10_layUp 44 = .ok (.ishr, 1) := by decide +kernel
theorem dX10_layUp_45 : decode cX10_layUp 45 = .ok (.iconst 1, 1) := by decide +kernel
theorem dX10_layUp_46 : decode cX10_layUp 46 = .ok (.iand, 1) := by decide +kernel
theorem dX10_layUp_47 : decode cX10_layUp 47 = .ok (.iconst 1, 1) := by decide +kernel
theorem dX10_layUp_48 : decode cX10_layUp 48 = .ok (.if_icmp .ne 5, 3) := by decide +kernel
theorem dX10_layUp_51 : decode cX10_layUp 51 = .ok (.iconst 0, 1) := by decide +kernel
theorem dX10_layUp_52 : decode cX10_layUp 52 = .ok (.ireturn, 1) := by decide +kernel
theorem dX10_layUp_53 : decode cX10_layUp 53 = .ok (.iload 4, 2) := by decide +kernel
theorem dX10_layUp_55 : decode cX10_layUp 55 = .ok (.iconst 1, 1) := by decide +kernel
theorem dX10_layUp_56 : decode cX10_layUp 56 = .ok (.aload_n 0, 1) := by decide +kernel
theorem dX10_layUp_57 : decode cX10_layUp 57 = .ok (.getfield 108, 3) := by decide +kernel
theorem dX10_layUp_60 : decode cX10_layUp 60 = .ok (.iload 5, 2) := by decide +kernel
theorem dX10_layUp_62 : decode cX10_layUp 62 = .ok (.iaload, 1) := by decide +kernel
theorem dX10_layUp_63 : decode cX10_layUp 63 = .ok (.ishl, 1) := by decide +kernel
theorem dX10_layUp_64 : decode cX10_layUp 64 = .ok (.ior, 1) := by decide +kernel
theorem dX10_layUp_65 : decode cX10_layUp 65 = .ok (.istore 4, 2) := by decide +kernel
theorem dX10_layUp_67 : decode cX10_layUp 67 = .ok (.iinc 5 (-1), 3) := by decide +kernel
theorem dX10_layUp_70 : decode cX10_layUp 70 = .ok (.goto (-60), 3) := by decide +kernel
theorem dX10_layUp_73 : decode cX10_layUp 73 = .ok (.iconst 1, 1) := by decide +kernel
theorem dX10_layUp_74 : decode cX10_layUp 74 = .ok (.ireturn, 1) := by decide +kernel
theorem dX10_leadsTo_0 : decode cX10_leadsTo 0 = .ok (.aload_n 0, 1) := by decide +kernel
theorem dX10_leadsTo_1 : decode cX10_leadsTo 1 = .ok (.iload_n 2, 1) := by decide +kernel
theorem dX10_leadsTo_2 : decode cX10_leadsTo 2 = .ok (.putfield 87, 3) := by decide +kernel
theorem dX10_leadsTo_5 : decode cX10_leadsTo 5 = .ok (.iconst 0, 1) := by decide +kernel
theorem dX10_leadsTo_6 : decode cX10_leadsTo 6 = .ok (.istore 4, 2) := by decide +kernel
theorem dX10_leadsTo_8 : decode cX10_leadsTo 8 = .ok (.iload 4, 2) := by decide +kernel
theorem dX10_leadsTo_10 : decode cX10_leadsTo 10 = .ok (.iload_n 1, 1) := by decide +kernel
theorem dX10_leadsTo_11 : decode cX10_leadsTo 11 = .ok (.if_icmp .ge 32, 3) := by decide +kernel
theorem dX10_leadsTo_14 : decode cX10_leadsTo 14 = .ok (.aload_n 0, 1) := by decide +kernel
theorem dX10_leadsTo_15 : decode cX10_leadsTo 15 = .ok (.aload_n 0, 1) := by decide +kernel
theorem dX10_leadsTo_16 : decode cX10_leadsTo 16 = .ok (.getfield 108, 3) := by decide +kernel
theorem dX10_leadsTo_19 : decode cX10_leadsTo 19 = .ok (.iload 4, 2) := by decide +kernel
theorem dX10_leadsTo_21 : decode cX10_leadsTo 21 = .ok (.iaload, 1) := by decide +kernel
theorem dX10_leadsTo_22 : decode cX10_leadsTo 22 = .ok (.aload_n 0, 1) := by decide +kernel
theorem dX10_leadsTo_23 : decode cX10_leadsTo 23 = .ok (.getfield 19, 3) := by decide +kernel
theorem dX10_leadsTo_26 : decode cX10_leadsTo 26 = .ok (.iload 4, 2) := by decide +kernel
theorem dX10_leadsTo_28 : decode cX10_leadsTo 28 = .ok (.iadd, 1) := by decide +kernel
theorem dX10_leadsTo_29 : decode cX10_leadsTo 29 = .ok (.invokevirtual 284, 3) := by decide +kernel
theorem dX10_leadsTo_32 : decode cX10_leadsTo 32 = .ok (.ifCond .ne 5, 3) := by decide +kernel
theorem dX10_leadsTo_35 : decode cX10_leadsTo 35 = .ok (.iconst 0, 1) := by decide +kernel
theorem dX10_leadsTo_36 : decode cX10_leadsTo 36 = .ok (.ireturn, 1) := by decide +kernel
theorem dX10_leadsTo_37 : decode cX10_leadsTo 37 = .ok (.iinc 4 1, 3) := by decide +kernel
theorem dX10_leadsTo_40 : decode cX10_leadsTo 40 = .ok (.goto (-32), 3) := by decide +kernel
theorem dX10_leadsTo_43 : decode cX10_leadsTo 43 = .ok (.aload_n 0, 1) := by decide +kernel
theorem dX10_leadsTo_44 : decode cX10_leadsTo 44 = .ok (.getfield 87, 3) := by decide +kernel
theorem dX10_leadsTo_47 : decode cX10_leadsTo 47 = .ok (.iload_n 3, 1) := by decide +kernel
theorem dX10_leadsTo_48 : decode cX10_leadsTo 48 = .ok (.if_icmp .ne 7, 3) := by decide +kernel
theorem dX10_leadsTo_51 : decode cX10_leadsTo 51 = .ok (.iconst 1, 1) := by decide +kernel
theorem dX10_leadsTo_52 : decode cX10_leadsTo 52 = .ok (.goto 4, 3) := by decide +kernel
theorem dX10_leadsTo_55 : decode cX10_leadsTo 55 = .ok (.iconst 0, 1) := by decide +kernel
theorem dX10_leadsTo_56 : decode cX10_leadsTo 56 = .ok (.ireturn, 1) := by decide +kernel
theorem dX10_up_0 : decode cX10_up 0 = .ok (.aload_n 0, 1) := by decide +kernel
theorem dX10_up_1 : decode cX10_up 1 = .ok (.iload_n 3, 1) := by decide +kernel
theorem dX10_up_2 : decode cX10_up 2 = .ok (.iconst (-1), 1) := by decide +kernel
theorem dX10_up_3 : decode cX10_up 3 = .ok (.iconst 5, 1) := by decide +kernel
theorem dX10_up_4 : decode cX10_up 4 = .ok (.invokevirtual 179, 3) := by decide +kernel
theorem dX10_up_7 : decode cX10_up 7 = .ok (.ifCond .ne 5, 3) := by decide +kernel
theorem dX10_up_10 : decode cX10_up 10 = .ok (.iconst (-1), 1) := by decide +kernel
theorem dX10_up_11 : decode cX10_up 11 = .ok (.ireturn, 1) := by decide +kernel
theorem dX10_up_12 : decode cX10_up 12 = .ok (.aload_n 0, 1) := by decide +kernel
theorem dX10_up_13 : decode cX10_up 13 = .ok (.iload_n 1, 1) := by decide +kernel
theorem dX10_up_14 : decode cX10_up 14 = .ok (.iconst 0, 1) := by decide +kernel
theorem dX10_up_15 : decode cX10_up 15 = .ok (.sipush 9999, 3) := by decide +kernel
theorem dX10_up_18 : decode cX10_up 18 = .ok (.invokevirtual 179, 3) := by decide +kernel
theorem dX10_up_21 : decode cX10_up 21 = .ok (.ifCond .eq 15, 3) := by decide +kernel
theorem dX10_up_24 : decode cX10_up 24 = .ok (.aload_n 0, 1) := by decide +kernel
theorem dX10_up_25 : decode cX10_up 25 = .ok (.iload_n 2, 1) := by decide +kernel
theorem dX10_up_26 : decode cX10_up 26 = .ok (.iconst 0, 1) := by decide +kernel
theorem dX10_up_27 : decode cX10_up 27 = .ok (.sipush 9999, 3) := by decide +kernel
theorem dX10_up_30 : decode cX10_up 30 = .ok (.invokevirtual 179, 3) := by decide +kernel
theorem dX10_up_33 : decode cX10_up 33 = .ok (.ifCond .ne 6, 3) := by decide +kernel
theorem dX10_up_36 : decode cX10_up 36 = .ok (.bipush (-2), 2) := by decide +kernel
theorem dX10_up_38 : decode cX10_up 38 = .ok (.ireturn, 1) := by decide +kernel
theorem dX10_up_39 : decode cX10_up 39 = .ok (.iload_n 1, 1) := by decide +kernel
theorem dX10_up_40 : decode cX10_up 40 = .ok (.iload_n 2, 1) := by decide +kernel
theorem dX10_up_41 : decode cX10_up 41 = .ok (.if_icmp .ne 7, 3) := by decide +kernel
theorem dX10_up_44 : decode cX10_up 44 = .ok (.iconst 1, 1) := by decide +kernel
theorem dX10_up_45 : decode cX10_up 45 = .ok (.goto 4, 3) := by decide +kernel
theorem dX10_up_48 : decode cX10_up 48 = .ok (.iconst 0, 1) := by decide +kernel
theorem dX10_up_49 : decode cX10_up 49 = .ok (.istore 4, 2) := by decide +kernel
theorem dX10_up_51 : decode cX10_up 51 = .ok (.bipush (-5), 2) := by decide +kernel
theorem dX10_up_53 : decode cX10_up 53 = .ok (.istore 5, 2) := by decide +kernel
theorem dX10_up_55 : decode cX10_up 55 = .ok (.iconst 1, 1) := by decide +kernel
theorem dX10_up_56 : decode cX10_up 56 = .ok (.istore 6, 2) := by decide +kernel
theorem dX10_up_58 : decode cX10_up 58 = .ok (.iconst 1, 1) := by decide +kernel
theorem dX10_up_59 : decode cX10_up 59 = .ok (.istore 7, 2) := by decide +kernel
theorem dX10_up_61 : decode cX10_up 61 = .ok (.iload 7, 2) := by decide +kernel
theorem dX10_up_63 : decode cX10_up 63 = .ok (.aload_n 0, 1) := by decide +kernel
theorem dX10_up_64 : decode cX10_up 64 = .ok (.getfield 7, 3) := by decide +kernel
theorem dX10_up_67 : decode cX10_up 67 = .ok (.if_icmp .gt 90, 3) := by decide +kernel
theorem dX10_up_70 : decode cX10_up 70 = .ok (.iload 6, 2) := by decide +kernel
theorem dX10_up_72 : decode cX10_up 72 = .ok (.aload_n 0, 1) := by decide +kernel
theorem dX10_up_73 : decode cX10_up 73 = .ok (.getfield 7, 3) := by decide +kernel
theorem dX10_up_76 : decode cX10_up 76 = .ok (.imul, 1) := by decide +kernel
theorem dX10_up_77 : decode cX10_up 77 = .ok (.istore 6, 2) := by decide +kernel
theorem dX10_up_79 : decode cX10_up 79 = .ok (.iconst 0, 1) := by decide +kernel
theorem dX10_up_80 : decode cX10_up 80 = .ok (.istore 8, 2) := by decide +kernel
theorem dX10_up_82 : decode cX10_up 82 = .ok (.iload 8, 2) := by decide +kernel
theorem dX10_up_84 : decode cX10_up 84 = .ok (.iload 6, 2) := by decide +kernel
theorem dX10_up_86 : decode cX10_up 86 = .ok (.if_icmp .ge 65, 3) := by decide +kernel
theorem dX10_up_89 : decode cX10_up 89 = .ok (.aload_n 0, 1) := by decide +kernel
theorem dX10_up_90 : decode cX10_up 90 = .ok (.iload 7, 2) := by decide +kernel
theorem dX10_up_92 : decode cX10_up 92 = .ok (.iload 8, 2) := by decide +kernel
theorem dX10_up_94 : decode cX10_up 94 = .ok (.invokevirtual 293, 3) := by decide +kernel
theorem dX10_up_97 : decode cX10_up 97 = .ok (.ifCond .eq 48, 3) := by decide +kernel
theorem dX10_up_100 : decode cX10_up 100 = .ok (.aload_n 0, 1) := by decide +kernel
theorem dX10_up_101 : decode cX10_up 101 = .ok (.iload 7, 2) := by decide +kernel
theorem dX10_up_103 : decode cX10_up 103 = .ok (.iload_n 1, 1) := by decide +kernel
theorem dX10_up_104 : decode cX10_up 104 = .ok (.iload_n 2, 1) := by decide +kernel
theorem dX10_up_105 : decode cX10_up 105 = .ok (.invokevirtual 296, 3) := by decide +kernel
theorem dX10_up_108 : decode cX10_up 108 = .ok (.ifCond .ne 6, 3) := by decide +kernel
theorem dX10_up_111 : decode cX10_up 111 = .ok (.goto 34, 3) := by decide +kernel
theorem dX10_up_114 : decode cX10_up 114 = .ok (.iload 4, 2) := by decide +kernel
theorem dX10_up_116 : decode cX10_up 116 = .ok (.ifCond .ne 26, 3) := by decide +kernel
theorem dX10_up_119 : decode cX10_up 119 = .ok (.iload_n 3, 1) := by decide +kernel
theorem dX10_up_120 : decode cX10_up 120 = .ok (.ifCond .lt 18, 3) := by decide +kernel
theorem dX10_up_123 : decode cX10_up 123 = .ok (.iload_n 3, 1) := by decide +kernel
theorem dX10_up_124 : decode cX10_up 124 = .ok (.iload 7, 2) := by decide +kernel
theorem dX10_up_126 : decode cX10_up 126 = .ok (.if_icmp .ge 12, 3) := by decide +kernel
theorem dX10_up_129 : decode cX10_up 129 = .ok (.aload_n 0, 1) := by decide +kernel
theorem dX10_up_130 : decode cX10_up 130 = .ok (.getfield 108, 3) := by decide +kernel
theorem dX10_up_133 : decode cX10_up 133 = .ok (.iload_n 3, 1) := by decide +kernel
theorem dX10_up_134 : decode cX10_up 134 = .ok (.iaload, 1) := by decide +kernel
theorem dX10_up_135 : decode cX10_up 135 = .ok (.goto 5, 3) := by decide +kernel
theorem dX10_up_138 : decode cX10_up 138 = .ok (.bipush (-5), 2) := by decide +kernel
theorem dX10_up_140 : decode cX10_up 140 = .ok (.istore 5, 2) := by decide +kernel
theorem dX10_up_142 : decode cX10_up 142 = .ok (.iinc 4 1, 3) := by decide +kernel
theorem dX10_up_145 : decode cX10_up 145 = .ok (.iinc 8 1, 3) := by decide +kernel
theorem dX10_up_148 : decode cX10_up 148 = .ok (.goto (-66), 3) := by decide +kernel
theorem dX10_up_151 : decode cX10_up 151 = .ok (.iinc 7 1, 3) := by decide +kernel
theorem dX10_up_154 : decode cX10_up 154 = .ok (.goto (-93), 3) := by decide +kernel
theorem dX10_up_157 : decode cX10_up 157 = .ok (.iload_n 3, 1) := by decide +kernel
theorem dX10_up_158 : decode cX10_up 158 = .ok (.ifCond .ge 8, 3) := by decide +kernel
theorem dX10_up_161 : decode cX10_up 161 = .ok (.iload 4, 2) := by decide +kernel
theorem dX10_up_163 : decode cX10_up 163 = .ok (.goto 5, 3) := by decide +kernel
theorem dX10_up_166 : decode cX10_up 166 = .ok (.iload 5, 2) := by decide +kernel
theorem dX10_up_168 : decode cX10_up 168 = .ok (.ireturn, 1) := by decide +kernel
theorem dX10_divisor_0 : decode cX10_divisor 0 = .ok (.lload_n 1, 1) := by decide +kernel
theorem dX10_divisor_1 : decode cX10_divisor 1 = .ok (.lconst 0, 1) := by decide +kernel
theorem dX10_divisor_2 : decode cX10_divisor 2 = .ok (.lcmp, 1) := by decide +kernel
theorem dX10_divisor_3 : decode cX10_divisor 3 = .ok (.ifCond .ge 8, 3) := by decide +kernel
theorem dX10_divisor_6 : decode cX10_divisor 6 = .ok (.lload_n 1, 1) := by decide +kernel
theorem dX10_divisor_7 : decode cX10_divisor 7 = .ok (.lneg, 1) := by decide +kernel
theorem dX10_divisor_8 : decode cX10_divisor 8 = .ok (.goto 4, 3) := by decide +kernel
theorem dX10_divisor_11 : decode cX10_divisor 11 = .ok (.lload_n 1, 1) := by decide +kernel
theorem dX10_divisor_12 : decode cX10_divisor 12 = .ok (.lstore 5, 2) := by decide +kernel
theorem dX10_divisor_14 : decode cX10_divisor 14 = .ok (.lload_n 3, 1) := by decide +kernel
theorem dX10_divisor_15 : decode cX10_divisor 15 = .ok (.lstore 7, 2) := by decide +kernel
theorem dX10_divisor_17 : decode cX10_divisor 17 = .ok (.lload 7, 2) := by decide +kernel
theorem dX10_divisor_19 : decode cX10_divisor 19 = .ok (.lconst 0, 1) := by decide +kernel
theorem dX10_divisor_20 : decode cX10_divisor 20 = .ok (.lcmp, 1) := by decide +kernel
theorem dX10_divisor_21 : decode cX10_divisor 21 = .ok (.ifCond .eq 21, 3) := by decide +kernel
theorem dX10_divisor_24 : decode cX10_divisor 24 = .ok (.lload 5, 2) := by decide +kernel
theorem dX10_divisor_26 : decode cX10_divisor 26 = .ok (.lload 7, 2) := by decide +kernel
theorem dX10_divisor_28 : decode cX10_divisor 28 = .ok (.lrem, 1) := by decide +kernel
theorem dX10_divisor_29 : decode cX10_divisor 29 = .ok (.lstore 9, 2) := by decide +kernel
theorem dX10_divisor_31 : decode cX10_divisor 31 = .ok (.lload 7, 2) := by decide +kernel
theorem dX10_divisor_33 : decode cX10_divisor 33 = .ok (.lstore 5, 2) := by decide +kernel
theorem dX10_divisor_35 : decode cX10_divisor 35 = .ok (.lload 9, 2) := by decide +kernel
theorem dX10_divisor_37 : decode cX10_divisor 37 = .ok (.lstore 7, 2) := by decide +kernel
theorem dX10_divisor_39 : decode cX10_divisor 39 = .ok (.goto (-22), 3) := by decide +kernel
theorem dX10_divisor_42 : decode cX10_divisor 42 = .ok (.lload 5, 2) := by decide +kernel
theorem dX10_divisor_44 : decode cX10_divisor 44 = .ok (.lreturn, 1) := by decide +kernel
theorem dX10_fair_0 : decode cX10_fair 0 = .ok (.aload_n 0, 1) := by decide +kernel
theorem dX10_fair_1 : decode cX10_fair 1 = .ok (.iload_n 1, 1) := by decide +kernel
theorem dX10_fair_2 : decode cX10_fair 2 = .ok (.invokevirtual 184, 3) := by decide +kernel
theorem dX10_fair_5 : decode cX10_fair 5 = .ok (.ifCond .eq 29, 3) := by decide +kernel
theorem dX10_fair_8 : decode cX10_fair 8 = .ok (.aload_n 0, 1) := by decide +kernel
theorem dX10_fair_9 : decode cX10_fair 9 = .ok (.iload_n 2, 1) := by decide +kernel
theorem dX10_fair_10 : decode cX10_fair 10 = .ok (.invokevirtual 281, 3) := by decide +kernel
theorem dX10_fair_13 : decode cX10_fair 13 = .ok (.ifCond .eq 21, 3) := by decide +kernel
theorem dX10_fair_16 : decode cX10_fair 16 = .ok (.aload_n 0, 1) := by decide +kernel
theorem dX10_fair_17 : decode cX10_fair 17 = .ok (.iload_n 3, 1) := by decide +kernel
theorem dX10_fair_18 : decode cX10_fair 18 = .ok (.iconst 0, 1) := by decide +kernel
theorem dX10_fair_19 : decode cX10_fair 19 = .ok (.iconst 1, 1) := by decide +kernel
theorem dX10_fair_20 : decode cX10_fair 20 = .ok (.invokevirtual 179, 3) := by decide +kernel
theorem dX10_fair_23 : decode cX10_fair 23 = .ok (.ifCond .eq 11, 3) := by decide +kernel
theorem dX10_fair_26 : decode cX10_fair 26 = .ok (.aload_n 0, 1) := by decide +kernel
theorem dX10_fair_27 : decode cX10_fair 27 = .ok (.iload_n 1, 1) := by decide +kernel
theorem dX10_fair_28 : decode cX10_fair 28 = .ok (.invokevirtual 287, 3) := by decide +kernel
theorem dX10_fair_31 : decode cX10_fair 31 = .ok (.ifCond .ne 7, 3) := by decide +kernel
theorem dX10_fair_34 : decode cX10_fair 34 = .ok (.ldc2_w 299, 3) := by decide +kernel
theorem dX10_fair_37 : decode cX10_fair 37 = .ok (.lreturn, 1) := by decide +kernel
theorem dX10_fair_38 : decode cX10_fair 38 = .ok (.aload_n 0, 1) := by decide +kernel
theorem dX10_fair_39 : decode cX10_fair 39 = .ok (.getfield 105, 3) := by decide +kernel
theorem dX10_fair_42 : decode cX10_fair 42 = .ok (.iload_n 2, 1) := by decide +kernel
theorem dX10_fair_43 : decode cX10_fair 43 = .ok (.iaload, 1) := by decide +kernel
theorem dX10_fair_44 : decode cX10_fair 44 = .ok (.i2l, 1) := by decide +kernel
theorem dX10_fair_45 : decode cX10_fair 45 = .ok (.aload_n 0, 1) := by decide +kernel
theorem dX10_fair_46 : decode cX10_fair 46 = .ok (.getfield 7, 3) := by decide +kernel
theorem dX10_fair_49 : decode cX10_fair 49 = .ok (.i2l, 1) := by decide +kernel
theorem dX10_fair_50 : decode cX10_fair 50 = .ok (.lmul, 1) := by decide +kernel
theorem dX10_fair_51 : decode cX10_fair 51 = .ok (.aload_n 0, 1) := by decide +kernel
theorem dX10_fair_52 : decode cX10_fair 52 = .ok (.getfield 87, 3) := by decide +kernel
theorem dX10_fair_55 : decode cX10_fair 55 = .ok (.i2l, 1) := by decide +kernel
theorem dX10_fair_56 : decode cX10_fair 56 = .ok (.ladd, 1) := by decide +kernel
theorem dX10_fair_57 : decode cX10_fair 57 = .ok (.iload_n 1, 1) := by decide +kernel
theorem dX10_fair_58 : decode cX10_fair 58 = .ok (.i2l, 1) := by decide +kernel
theorem dX10_fair_59 : decode cX10_fair 59 = .ok (.lsub, 1) := by decide +kernel
theorem dX10_fair_60 : decode cX10_fair 60 = .ok (.aload_n 0, 1) := by decide +kernel
theorem dX10_fair_61 : decode cX10_fair 61 = .ok (.getfield 99, 3) := by decide +kernel
theorem dX10_fair_64 : decode cX10_fair 64 = .ok (.i2l, 1) := by decide +kernel
theorem dX10_fair_65 : decode cX10_fair 65 = .ok (.ladd, 1) := by decide +kernel
theorem dX10_fair_66 : decode cX10_fair 66 = .ok (.lstore 4, 2) := by decide +kernel
theorem dX10_fair_68 : decode cX10_fair 68 = .ok (.aload_n 0, 1) := by decide +kernel
theorem dX10_fair_69 : decode cX10_fair 69 = .ok (.lload 4, 2) := by decide +kernel
theorem dX10_fair_71 : decode cX10_fair 71 = .ok (.aload_n 0, 1) := by decide +kernel
theorem dX10_fair_72 : decode cX10_fair 72 = .ok (.getfield 7, 3) := by decide +kernel
theorem dX10_fair_75 : decode cX10_fair 75 = .ok (.i2l, 1) := by decide +kernel
theorem dX10_fair_76 : decode cX10_fair 76 = .ok (.invokevirtual 301, 3) := by decide +kernel
theorem dX10_fair_79 : decode cX10_fair 79 = .ok (.lstore 6, 2) := by decide +kernel
theorem dX10_fair_81 : decode cX10_fair 81 = .ok (.iload_n 3, 1) := by decide +kernel
theorem dX10_fair_82 : decode cX10_fair 82 = .ok (.ifCond .ne 11, 3) := by decide +kernel
theorem dX10_fair_85 : decode cX10_fair 85 = .ok (.lload 4, 2) := by decide +kernel
theorem dX10_fair_87 : decode cX10_fair 87 = .ok (.lload 6, 2) := by decide +kernel
theorem dX10_fair_89 : decode cX10_fair 89 = .ok (.ldiv, 1) := by decide +kernel
theorem dX10_fair_90 : decode cX10_fair 90 = .ok (.goto 11, 3) := by decide +kernel
theorem dX10_fair_93 : decode cX10_fair 93 = .ok (.aload_n 0, 1) := by decide +kernel
theorem dX10_fair_94 : decode cX10_fair 94 = .ok (.getfield 7, 3) := by decide +kernel
theorem dX10_fair_97 : decode cX10_fair 97 = .ok (.i2l, 1) := by decide +kernel
theorem dX10_fair_98 : decode cX10_fair 98 = .ok (.lload 6, 2) := by decide +kernel
theorem dX10_fair_100 : decode cX10_fair 100 = .ok (.ldiv, 1) := by decide +kernel
theorem dX10_fair_101 : decode cX10_fair 101 = .ok (.lreturn, 1) := by decide +kernel
theorem dX10_chance_0 : decode cX10_chance 0 = .ok (.aload_n 0, 1) := by decide +kernel
theorem dX10_chance_1 : decode cX10_chance 1 = .ok (.iload_n 1, 1) := by decide +kernel
theorem dX10_chance_2 : decode cX10_chance 2 = .ok (.iconst 1, 1) := by decide +kernel
theorem dX10_chance_3 : decode cX10_chance 3 = .ok (.sipush 9999, 3) := by decide +kernel
theorem dX10_chance_6 : decode cX10_chance 6 = .ok (.invokevirtual 179, 3) := by decide +kernel
theorem dX10_chance_9 : decode cX10_chance 9 = .ok (.ifCond .eq 13, 3) := by decide +kernel
theorem dX10_chance_12 : decode cX10_chance 12 = .ok (.aload_n 0, 1) := by decide +kernel
theorem dX10_chance_13 : decode cX10_chance 13 = .ok (.iload_n 2, 1) := by decide +kernel
theorem dX10_chance_14 : decode cX10_chance 14 = .ok (.iconst 0, 1) := by decide +kernel
theorem dX10_chance_15 : decode cX10_chance 15 = .ok (.iconst 1, 1) := by decide +kernel
theorem dX10_chance_16 : decode cX10_chance 16 = .ok (.invokevirtual 179, 3) := by decide +kernel
theorem dX10_chance_19 : decode cX10_chance 19 = .ok (.ifCond .ne 7, 3) := by decide +kernel
theorem dX10_chance_22 : decode cX10_chance 22 = .ok (.ldc2_w 299, 3) := by decide +kernel
theorem dX10_chance_25 : decode cX10_chance 25 = .ok (.lreturn, 1) := by decide +kernel
theorem dX10_chance_26 : decode cX10_chance 26 = .ok (.lconst 0, 1) := by decide +kernel
theorem dX10_chance_27 : decode cX10_chance 27 = .ok (.lstore_n 3, 1) := by decide +kernel
theorem dX10_chance_28 : decode cX10_chance 28 = .ok (.iconst 1, 1) := by decide +kernel
theorem dX10_chance_29 : decode cX10_chance 29 = .ok (.istore 5, 2) := by decide +kernel
theorem dX10_chance_31 : decode cX10_chance 31 = .ok (.iload 5, 2) := by decide +kernel
theorem dX10_chance_33 : decode cX10_chance 33 = .ok (.iload_n 1, 1) := by decide +kernel
theorem dX10_chance_34 : decode cX10_chance 34 = .ok (.if_icmp .gt 26, 3) := by decide +kernel
theorem dX10_chance_37 : decode cX10_chance 37 = .ok (.lload_n 3, 1) := by decide +kernel
theorem dX10_chance_38 : decode cX10_chance 38 = .ok (.aload_n 0, 1) := by decide +kernel
theorem dX10_chance_39 : decode cX10_chance 39 = .ok (.iload 5, 2) := by decide +kernel
theorem dX10_chance_41 : decode cX10_chance 41 = .ok (.invokevirtual 290, 3) := by decide +kernel
theorem dX10_chance_44 : decode cX10_chance 44 = .ok (.ifCond .eq 7, 3) := by decide +kernel
theorem dX10_chance_47 : decode cX10_chance 47 = .ok (.lconst 1, 1) := by decide +kernel
theorem dX10_chance_48 : decode cX10_chance 48 = .ok (.goto 4, 3) := by decide +kernel
theorem dX10_chance_51 : decode cX10_chance 51 = .ok (.lconst 0, 1) := by decide +kernel
theorem dX10_chance_52 : decode cX10_chance 52 = .ok (.ladd, 1) := by decide +kernel
theorem dX10_chance_53 : decode cX10_chance 53 = .ok (.lstore_n 3, 1) := by decide +kernel
theorem dX10_chance_54 : decode cX10_chance 54 = .ok (.iinc 5 1, 3) := by decide +kernel
theorem dX10_chance_57 : decode cX10_chance 57 = .ok (.goto (-26), 3) := by decide +kernel
theorem dX10_chance_60 : decode cX10_chance 60 = .ok (.aload_n 0, 1) := by decide +kernel
theorem dX10_chance_61 : decode cX10_chance 61 = .ok (.lload_n 3, 1) := by decide +kernel
theorem dX10_chance_62 : decode cX10_chance 62 = .ok (.iload_n 1, 1) := by decide +kernel
theorem dX10_chance_63 : decode cX10_chance 63 = .ok (.i2l, 1) := by decide +kernel
theorem dX10_chance_64 : decode cX10_chance 64 = .ok (.invokevirtual 301, 3) := by decide +kernel
theorem dX10_chance_67 : decode cX10_chance 67 = .ok (.lstore 5, 2) := by decide +kernel
theorem dX10_chance_69 : decode cX10_chance 69 = .ok (.iload_n 2, 1) := by decide +kernel
theorem dX10_chance_70 : decode cX10_chance 70 = .ok (.ifCond .ne 10, 3) := by decide +kernel
theorem dX10_chance_73 : decode cX10_chance 73 = .ok (.lload_n 3, 1) := by decide +kernel
theorem dX10_chance_74 : decode cX10_chance 74 = .ok (.lload 5, 2) := by decide +kernel
theorem dX10_chance_76 : decode cX10_chance 76 = .ok (.ldiv, 1) := by decide +kernel
theorem dX10_chance_77 : decode cX10_chance 77 = .ok (.goto 8, 3) := by decide +kernel
theorem dX10_chance_80 : decode cX10_chance 80 = .ok (.iload_n 1, 1) := by decide +kernel
theorem dX10_chance_81 : decode cX10_chance 81 = .ok (.i2l, 1) := by decide +kernel
theorem dX10_chance_82 : decode cX10_chance 82 = .ok (.lload 5, 2) := by decide +kernel
theorem dX10_chance_84 : decode cX10_chance 84 = .ok (.ldiv, 1) := by decide +kernel
theorem dX10_chance_85 : decode cX10_chance 85 = .ok (.lreturn, 1) := by decide +kernel
theorem dX10_times_0 : decode cX10_times 0 = .ok (.iconst 0, 1) := by decide +kernel
theorem dX10_times_1 : decode cX10_times 1 = .ok (.istore_n 2, 1) := by decide +kernel
theorem dX10_times_2 : decode cX10_times 2 = .ok (.iconst 0, 1) := by decide +kernel
theorem dX10_times_3 : decode cX10_times 3 = .ok (.istore_n 3, 1) := by decide +kernel
theorem dX10_times_4 : decode cX10_times 4 = .ok (.iload_n 3, 1) := by decide +kernel
theorem dX10_times_5 : decode cX10_times 5 = .ok (.bipush 42, 2) := by decide +kernel
theorem dX10_times_7 : decode cX10_times 7 = .ok (.if_icmp .ge 38, 3) := by decide +kernel
theorem dX10_times_10 : decode cX10_times 10 = .ok (.aload_n 0, 1) := by decide +kernel
theorem dX10_times_11 : decode cX10_times 11 = .ok (.getfield 111, 3) := by decide +kernel
theorem dX10_times_14 : decode cX10_times 14 = .ok (.iload_n 3, 1) := by decide +kernel
theorem dX10_times_15 : decode cX10_times 15 = .ok (.iaload, 1) := by decide +kernel
theorem dX10_times_16 : decode cX10_times 16 = .ok (.iload_n 1, 1) := by decide +kernel
theorem dX10_times_17 : decode cX10_times 17 = .ok (.imul, 1) := by decide +kernel
theorem dX10_times_18 : decode cX10_times 18 = .ok (.iload_n 2, 1) := by decide +kernel
theorem dX10_times_19 : decode cX10_times 19 = .ok (.iadd, 1) := by decide +kernel
theorem dX10_times_20 : decode cX10_times 20 = .ok (.istore 4, 2) := by decide +kernel
theorem dX10_times_22 : decode cX10_times 22 = .ok (.aload_n 0, 1) := by decide +kernel
theorem dX10_times_23 : decode cX10_times 23 = .ok (.getfield 111, 3) := by decide +kernel
theorem dX10_times_26 : decode cX10_times 26 = .ok (.iload_n 3, 1) := by decide +kernel
theorem dX10_times_27 : decode cX10_times 27 = .ok (.iload 4, 2) := by decide +kernel
theorem dX10_times_29 : decode cX10_times 29 = .ok (.bipush 10, 2) := by decide +kernel
theorem dX10_times_31 : decode cX10_times 31 = .ok (.irem, 1) := by decide +kernel
theorem dX10_times_32 : decode cX10_times 32 = .ok (.iastore, 1) := by decide +kernel
theorem dX10_times_33 : decode cX10_times 33 = .ok (.iload 4, 2) := by decide +kernel
theorem dX10_times_35 : decode cX10_times 35 = .ok (.bipush 10, 2) := by decide +kernel
theorem dX10_times_37 : decode cX10_times 37 = .ok (.idiv, 1) := by decide +kernel
theorem dX10_times_38 : decode cX10_times 38 = .ok (.istore_n 2, 1) := by decide +kernel
theorem dX10_times_39 : decode cX10_times 39 = .ok (.iinc 3 1, 3) := by decide +kernel
theorem dX10_times_42 : decode cX10_times 42 = .ok (.goto (-38), 3) := by decide +kernel
theorem dX10_times_45 : decode cX10_times 45 = .ok (.return_, 1) := by decide +kernel
theorem dX10_less_0 : decode cX10_less 0 = .ok (.iload_n 1, 1) := by decide +kernel
theorem dX10_less_1 : decode cX10_less 1 = .ok (.istore_n 2, 1) := by decide +kernel
theorem dX10_less_2 : decode cX10_less 2 = .ok (.iconst 0, 1) := by decide +kernel
theorem dX10_less_3 : decode cX10_less 3 = .ok (.istore_n 3, 1) := by decide +kernel
theorem dX10_less_4 : decode cX10_less 4 = .ok (.iload_n 3, 1) := by decide +kernel
theorem dX10_less_5 : decode cX10_less 5 = .ok (.bipush 42, 2) := by decide +kernel
theorem dX10_less_7 : decode cX10_less 7 = .ok (.if_icmp .ge 46, 3) := by decide +kernel
theorem dX10_less_10 : decode cX10_less 10 = .ok (.aload_n 0, 1) := by decide +kernel
theorem dX10_less_11 : decode cX10_less 11 = .ok (.getfield 111, 3) := by decide +kernel
theorem dX10_less_14 : decode cX10_less 14 = .ok (.iload_n 3, 1) := by decide +kernel
theorem dX10_less_15 : decode cX10_less 15 = .ok (.iaload, 1) := by decide +kernel
theorem dX10_less_16 : decode cX10_less 16 = .ok (.iload_n 2, 1) := by decide +kernel
theorem dX10_less_17 : decode cX10_less 17 = .ok (.bipush 10, 2) := by decide +kernel
theorem dX10_less_19 : decode cX10_less 19 = .ok (.irem, 1) := by decide +kernel
theorem dX10_less_20 : decode cX10_less 20 = .ok (.isub, 1) := by decide +kernel
theorem dX10_less_21 : decode cX10_less 21 = .ok (.istore 4, 2) := by decide +kernel
theorem dX10_less_23 : decode cX10_less 23 = .ok (.iload_n 2, 1) := by decide +kernel
theorem dX10_less_24 : decode cX10_less 24 = .ok (.bipush 10, 2) := by decide +kernel
theorem dX10_less_26 : decode cX10_less 26 = .ok (.idiv, 1) := by decide +kernel
theorem dX10_less_27 : decode cX10_less 27 = .ok (.istore_n 2, 1) := by decide +kernel
theorem dX10_less_28 : decode cX10_less 28 = .ok (.iload 4, 2) := by decide +kernel
theorem dX10_less_30 : decode cX10_less 30 = .ok (.ifCond .ge 9, 3) := by decide +kernel
theorem dX10_less_33 : decode cX10_less 33 = .ok (.iinc 4 10, 3) := by decide +kernel
theorem dX10_less_36 : decode cX10_less 36 = .ok (.iinc 2 1, 3) := by decide +kernel
theorem dX10_less_39 : decode cX10_less 39 = .ok (.aload_n 0, 1) := by decide +kernel
theorem dX10_less_40 : decode cX10_less 40 = .ok (.getfield 111, 3) := by decide +kernel
theorem dX10_less_43 : decode cX10_less 43 = .ok (.iload_n 3, 1) := by decide +kernel
theorem dX10_less_44 : decode cX10_less 44 = .ok (.iload 4, 2) := by decide +kernel
theorem dX10_less_46 : decode cX10_less 46 = .ok (.iastore, 1) := by decide +kernel
theorem dX10_less_47 : decode cX10_less 47 = .ok (.iinc 3 1, 3) := by decide +kernel
theorem dX10_less_50 : decode cX10_less 50 = .ok (.goto (-46), 3) := by decide +kernel
theorem dX10_less_53 : decode cX10_less 53 = .ok (.iload_n 2, 1) := by decide +kernel
theorem dX10_less_54 : decode cX10_less 54 = .ok (.ifCond .ne 7, 3) := by decide +kernel
theorem dX10_less_57 : decode cX10_less 57 = .ok (.iconst 1, 1) := by decide +kernel
theorem dX10_less_58 : decode cX10_less 58 = .ok (.goto 4, 3) := by decide +kernel
theorem dX10_less_61 : decode cX10_less 61 = .ok (.iconst 0, 1) := by decide +kernel
theorem dX10_less_62 : decode cX10_less 62 = .ok (.ireturn, 1) := by decide +kernel
theorem dX10_layBig_0 : decode cX10_layBig 0 = .ok (.iconst 0, 1) := by decide +kernel
theorem dX10_layBig_1 : decode cX10_layBig 1 = .ok (.istore 4, 2) := by decide +kernel
theorem dX10_layBig_3 : decode cX10_layBig 3 = .ok (.iload 4, 2) := by decide +kernel
theorem dX10_layBig_5 : decode cX10_layBig 5 = .ok (.bipush 42, 2) := by decide +kernel
theorem dX10_layBig_7 : decode cX10_layBig 7 = .ok (.if_icmp .ge 26, 3) := by decide +kernel
theorem dX10_layBig_10 : decode cX10_layBig 10 = .ok (.aload_n 0, 1) := by decide +kernel
theorem dX10_layBig_11 : decode cX10_layBig 11 = .ok (.getfield 111, 3) := by decide +kernel
theorem dX10_layBig_14 : decode cX10_layBig 14 = .ok (.iload 4, 2) := by decide +kernel
theorem dX10_layBig_16 : decode cX10_layBig 16 = .ok (.iload 4, 2) := by decide +kernel
theorem dX10_layBig_18 : decode cX10_layBig 18 = .ok (.ifCond .ne 7, 3) := by decide +kernel
theorem dX10_layBig_21 : decode cX10_layBig 21 = .ok (.iconst 1, 1) := by decide +kernel
theorem dX10_layBig_22 : decode cX10_layBig 22 = .ok (.goto 4, 3) := by decide +kernel
theorem dX10_layBig_25 : decode cX10_layBig 25 = .ok (.iconst 0, 1) := by decide +kernel
theorem dX10_layBig_26 : decode cX10_layBig 26 = .ok (.iastore, 1) := by decide +kernel
theorem dX10_layBig_27 : decode cX10_layBig 27 = .ok (.iinc 4 1, 3) := by decide +kernel
theorem dX10_layBig_30 : decode cX10_layBig 30 = .ok (.goto (-27), 3) := by decide +kernel
theorem dX10_layBig_33 : decode cX10_layBig 33 = .ok (.iconst 0, 1) := by decide +kernel
theorem dX10_layBig_34 : decode cX10_layBig 34 = .ok (.istore 4, 2) := by decide +kernel
theorem dX10_layBig_36 : decode cX10_layBig 36 = .ok (.iload 4, 2) := by decide +kernel
theorem dX10_layBig_38 : decode cX10_layBig 38 = .ok (.iload_n 2, 1) := by decide +kernel
theorem dX10_layBig_39 : decode cX10_layBig 39 = .ok (.if_icmp .gt 14, 3) := by decide +kernel
theorem dX10_layBig_42 : decode cX10_layBig 42 = .ok (.aload_n 0, 1) := by decide +kernel
theorem dX10_layBig_43 : decode cX10_layBig 43 = .ok (.iload_n 1, 1) := by decide +kernel
theorem dX10_layBig_44 : decode cX10_layBig 44 = .ok (.invokevirtual 305, 3) := by decide +kernel
theorem dX10_layBig_47 : decode cX10_layBig 47 = .ok (.iinc 4 1, 3) := by decide +kernel
theorem dX10_layBig_50 : decode cX10_layBig 50 = .ok (.goto (-14), 3) := by decide +kernel
theorem dX10_layBig_53 : decode cX10_layBig 53 = .ok (.aload_n 0, 1) := by decide +kernel
theorem dX10_layBig_54 : decode cX10_layBig 54 = .ok (.iload_n 1, 1) := by decide +kernel
theorem dX10_layBig_55 : decode cX10_layBig 55 = .ok (.iconst 1, 1) := by decide +kernel
theorem dX10_layBig_56 : decode cX10_layBig 56 = .ok (.isub, 1) := by decide +kernel
theorem dX10_layBig_57 : decode cX10_layBig 57 = .ok (.iload_n 3, 1) := by decide +kernel
theorem dX10_layBig_58 : decode cX10_layBig 58 = .ok (.imul, 1) := by decide +kernel
theorem dX10_layBig_59 : decode cX10_layBig 59 = .ok (.invokevirtual 308, 3) := by decide +kernel
theorem dX10_layBig_62 : decode cX10_layBig 62 = .ok (.ifCond .eq 4, 3) := by decide +kernel
theorem dX10_layBig_65 : decode cX10_layBig 65 = .ok (.return_, 1) := by decide +kernel
theorem dX10_layBig_66 : decode cX10_layBig 66 = .ok (.iconst 0, 1) := by decide +kernel
theorem dX10_layBig_67 : decode cX10_layBig 67 = .ok (.istore 4, 2) := by decide +kernel
theorem dX10_layBig_69 : decode cX10_layBig 69 = .ok (.iload 4, 2) := by decide +kernel
theorem dX10_layBig_71 : decode cX10_layBig 71 = .ok (.bipush 42, 2) := by decide +kernel
theorem dX10_layBig_73 : decode cX10_layBig 73 = .ok (.if_icmp .ge 17, 3) := by decide +kernel
theorem dX10_layBig_76 : decode cX10_layBig 76 = .ok (.aload_n 0, 1) := by decide +kernel
theorem dX10_layBig_77 : decode cX10_layBig 77 = .ok (.getfield 111, 3) := by decide +kernel
theorem dX10_layBig_80 : decode cX10_layBig 80 = .ok (.iload 4, 2) := by decide +kernel
theorem dX10_layBig_82 : decode cX10_layBig 82 = .ok (.iconst 0, 1) := by decide +kernel
theorem dX10_layBig_83 : decode cX10_layBig 83 = .ok (.iastore, 1) := by decide +kernel
theorem dX10_layBig_84 : decode cX10_layBig 84 = .ok (.iinc 4 1, 3) := by decide +kernel
theorem dX10_layBig_87 : decode cX10_layBig 87 = .ok (.goto (-18), 3) := by decide +kernel
theorem dX10_layBig_90 : decode cX10_layBig 90 = .ok (.return_, 1) := by decide +kernel
theorem dX10_big_0 : decode cX10_big 0 = .ok (.aload_n 0, 1) := by decide +kernel
theorem dX10_big_1 : decode cX10_big 1 = .ok (.iload 4, 2) := by decide +kernel
theorem dX10_big_3 : decode cX10_big 3 = .ok (.iconst (-1), 1) := by decide +kernel
theorem dX10_big_4 : decode cX10_big 4 = .ok (.bipush 39, 2) := by decide +kernel
theorem dX10_big_6 : decode cX10_big 6 = .ok (.invokevirtual 179, 3) := by decide +kernel
theorem dX10_big_9 : decode cX10_big 9 = .ok (.ifCond .ne 19, 3) := by decide +kernel
theorem dX10_big_12 : decode cX10_big 12 = .ok (.aload_n 0, 1) := by decide +kernel
theorem dX10_big_13 : decode cX10_big 13 = .ok (.iload 4, 2) := by decide +kernel
theorem dX10_big_15 : decode cX10_big 15 = .ok (.bipush 102, 2) := by decide +kernel
theorem dX10_big_17 : decode cX10_big 17 = .ok (.sipush 199, 3) := by decide +kernel
theorem dX10_big_20 : decode cX10_big 20 = .ok (.invokevirtual 179, 3) := by decide +kernel
theorem dX10_big_23 : decode cX10_big 23 = .ok (.ifCond .ne 5, 3) := by decide +kernel
theorem dX10_big_26 : decode cX10_big 26 = .ok (.iconst (-1), 1) := by decide +kernel
theorem dX10_big_27 : decode cX10_big 27 = .ok (.ireturn, 1) := by decide +kernel
theorem dX10_big_28 : decode cX10_big 28 = .ok (.aload_n 0, 1) := by decide +kernel
theorem dX10_big_29 : decode cX10_big 29 = .ok (.iload_n 1, 1) := by decide +kernel
theorem dX10_big_30 : decode cX10_big 30 = .ok (.iconst 2, 1) := by decide +kernel
theorem dX10_big_31 : decode cX10_big 31 = .ok (.bipush 12, 2) := by decide +kernel
theorem dX10_big_33 : decode cX10_big 33 = .ok (.invokevirtual 179, 3) := by decide +kernel
theorem dX10_big_36 : decode cX10_big 36 = .ok (.ifCond .eq 25, 3) := by decide +kernel
theorem dX10_big_39 : decode cX10_big 39 = .ok (.aload_n 0, 1) := by decide +kernel
theorem dX10_big_40 : decode cX10_big 40 = .ok (.iload_n 2, 1) := by decide +kernel
theorem dX10_big_41 : decode cX10_big 41 = .ok (.iconst 1, 1) := by decide +kernel
theorem dX10_big_42 : decode cX10_big 42 = .ok (.bipush 30, 2) := by decide +kernel
theorem dX10_big_44 : decode cX10_big 44 = .ok (.invokevirtual 179, 3) := by decide +kernel
theorem dX10_big_47 : decode cX10_big 47 = .ok (.ifCond .eq 14, 3) := by decide +kernel
theorem dX10_big_50 : decode cX10_big 50 = .ok (.aload_n 0, 1) := by decide +kernel
theorem dX10_big_51 : decode cX10_big 51 = .ok (.iload_n 3, 1) := by decide +kernel
theorem dX10_big_52 : decode cX10_big 52 = .ok (.iconst 0, 1) := by decide +kernel
theorem dX10_big_53 : decode cX10_big 53 = .ok (.bipush 9, 2) := by decide +kernel
theorem dX10_big_55 : decode cX10_big 55 = .ok (.invokevirtual 179, 3) := by decide +kernel
theorem dX10_big_58 : decode cX10_big 58 = .ok (.ifCond .ne 6, 3) := by decide +kernel
theorem dX10_big_61 : decode cX10_big 61 = .ok (.bipush (-2), 2) := by decide +kernel
theorem dX10_big_63 : decode cX10_big 63 = .ok (.ireturn, 1) := by decide +kernel
theorem dX10_big_64 : decode cX10_big 64 = .ok (.aload_n 0, 1) := by decide +kernel
theorem dX10_big_65 : decode cX10_big 65 = .ok (.iload_n 1, 1) := by decide +kernel
theorem dX10_big_66 : decode cX10_big 66 = .ok (.iload_n 2, 1) := by decide +kernel
theorem dX10_big_67 : decode cX10_big 67 = .ok (.iload_n 3, 1) := by decide +kernel
theorem dX10_big_68 : decode cX10_big 68 = .ok (.invokevirtual 311, 3) := by decide +kernel
theorem dX10_big_71 : decode cX10_big 71 = .ok (.aload_n 0, 1) := by decide +kernel
theorem dX10_big_72 : decode cX10_big 72 = .ok (.iload 4, 2) := by decide +kernel
theorem dX10_big_74 : decode cX10_big 74 = .ok (.iconst 0, 1) := by decide +kernel
theorem dX10_big_75 : decode cX10_big 75 = .ok (.bipush 39, 2) := by decide +kernel
theorem dX10_big_77 : decode cX10_big 77 = .ok (.invokevirtual 179, 3) := by decide +kernel
theorem dX10_big_80 : decode cX10_big 80 = .ok (.ifCond .eq 11, 3) := by decide +kernel
theorem dX10_big_83 : decode cX10_big 83 = .ok (.aload_n 0, 1) := by decide +kernel
theorem dX10_big_84 : decode cX10_big 84 = .ok (.getfield 111, 3) := by decide +kernel
theorem dX10_big_87 : decode cX10_big 87 = .ok (.iload 4, 2) := by decide +kernel
theorem dX10_big_89 : decode cX10_big 89 = .ok (.iaload, 1) := by decide +kernel
theorem dX10_big_90 : decode cX10_big 90 = .ok (.ireturn, 1) := by decide +kernel
theorem dX10_big_91 : decode cX10_big 91 = .ok (.iconst 1, 1) := by decide +kernel
theorem dX10_big_92 : decode cX10_big 92 = .ok (.istore 5, 2) := by decide +kernel
theorem dX10_big_94 : decode cX10_big 94 = .ok (.iconst 0, 1) := by decide +kernel
theorem dX10_big_95 : decode cX10_big 95 = .ok (.istore 6, 2) := by decide +kernel
theorem dX10_big_97 : decode cX10_big 97 = .ok (.bipush 41, 2) := by decide +kernel
theorem dX10_big_99 : decode cX10_big 99 = .ok (.istore 7, 2) := by decide +kernel
theorem dX10_big_101 : decode cX10_big 101 = .ok (.iload 7, 2) := by decide +kernel
theorem dX10_big_103 : decode cX10_big 103 = .ok (.ifCond .lt 62, 3) := by decide +kernel
theorem dX10_big_106 : decode cX10_big 106 = .ok (.aload_n 0, 1) := by decide +kernel
theorem dX10_big_107 : decode cX10_big 107 = .ok (.getfield 111, 3) := by decide +kernel
theorem dX10_big_110 : decode cX10_big 110 = .ok (.iload 7, 2) := by decide +kernel
theorem dX10_big_112 : decode cX10_big 112 = .ok (.iaload, 1) := by decide +kernel
theorem dX10_big_113 : decode cX10_big 113 = .ok (.ifCond .le 16, 3) := by decide +kernel
theorem dX10_big_116 : decode cX10_big 116 = .ok (.iload 7, 2) := by decide +kernel
theorem dX10_big_118 : decode cX10_big 118 = .ok (.iload 5, 2) := by decide +kernel
theorem dX10_big_120 : decode cX10_big 120 = .ok (.if_icmp .lt 9, 3) := by decide +kernel
theorem dX10_big_123 : decode cX10_big 123 = .ok (.iload 7, 2) := by decide +kernel
theorem dX10_big_125 : decode cX10_big 125 = .ok (.iconst 1, 1) := by decide +kernel
theorem dX10_big_126 : decode cX10_big 126 = .ok (.iadd, 1) := by decide +kernel
theorem dX10_big_127 : decode cX10_big 127 = .ok (.istore 5, 2) := by decide +kernel
theorem dX10_big_129 : decode cX10_big 129 = .ok (.iload 4, 2) := by decide +kernel
theorem dX10_big_131 : decode cX10_big 131 = .ok (.ifCond .ge 7, 3) := by decide +kernel
theorem dX10_big_134 : decode cX10_big 134 = .ok (.iconst 0, 1) := by decide +kernel
theorem dX10_big_135 : decode cX10_big 135 = .ok (.goto 22, 3) := by decide +kernel
theorem dX10_big_138 : decode cX10_big 138 = .ok (.bipush 10, 2) := by decide +kernel
theorem dX10_big_140 : decode cX10_big 140 = .ok (.iload 6, 2) := by decide +kernel
theorem dX10_big_142 : decode cX10_big 142 = .ok (.imul, 1) := by decide +kernel
theorem dX10_big_143 : decode cX10_big 143 = .ok (.aload_n 0, 1) := by decide +kernel
theorem dX10_big_144 : decode cX10_big 144 = .ok (.getfield 111, 3) := by decide +kernel
theorem dX10_big_147 : decode cX10_big 147 = .ok (.iload 7, 2) := by decide +kernel
theorem dX10_big_149 : decode cX10_big 149 = .ok (.iaload, 1) := by decide +kernel
theorem dX10_big_150 : decode cX10_big 150 = .ok (.iadd, 1) := by decide +kernel
theorem dX10_big_151 : decode cX10_big 151 = .ok (.iload 4, 2) := by decide +kernel
theorem dX10_big_153 : decode cX10_big 153 = .ok (.bipush 100, 2) := by decide +kernel
theorem dX10_big_155 : decode cX10_big 155 = .ok (.isub, 1) := by decide +kernel
theorem dX10_big_156 : decode cX10_big 156 = .ok (.irem, 1) := by decide +kernel
theorem dX10_big_157 : decode cX10_big 157 = .ok (.istore 6, 2) := by decide +kernel
theorem dX10_big_159 : decode cX10_big 159 = .ok (.iinc 7 (-1), 3) := by decide +kernel
theorem dX10_big_162 : decode cX10_big 162 = .ok (.goto (-61), 3) := by decide +kernel
theorem dX10_big_165 : decode cX10_big 165 = .ok (.iload 4, 2) := by decide +kernel
theorem dX10_big_167 : decode cX10_big 167 = .ok (.ifCond .ge 8, 3) := by decide +kernel
theorem dX10_big_170 : decode cX10_big 170 = .ok (.iload 5, 2) := by decide +kernel
theorem dX10_big_172 : decode cX10_big 172 = .ok (.goto 5, 3) := by decide +kernel
theorem dX10_big_175 : decode cX10_big 175 = .ok (.iload 6, 2) := by decide +kernel
theorem dX10_big_177 : decode cX10_big 177 = .ok (.ireturn, 1) := by decide +kernel
theorem dX10_book_0 : decode cX10_book 0 = .ok (.iload_n 1, 1) := by decide +kernel
theorem dX10_book_1 : decode cX10_book 1 = .ok (.iconst (-1), 1) := by decide +kernel
theorem dX10_book_2 : decode cX10_book 2 = .ok (.if_icmp .ne 10, 3) := by decide +kernel
theorem dX10_book_5 : decode cX10_book 5 = .ok (.aload_n 0, 1) := by decide +kernel
theorem dX10_book_6 : decode cX10_book 6 = .ok (.iconst 0, 1) := by decide +kernel
theorem dX10_book_7 : decode cX10_book 7 = .ok (.putfield 114, 3) := by decide +kernel
theorem dX10_book_10 : decode cX10_book 10 = .ok (.iconst 0, 1) := by decide +kernel
theorem dX10_book_11 : decode cX10_book 11 = .ok (.ireturn, 1) := by decide +kernel
theorem dX10_book_12 : decode cX10_book 12 = .ok (.aload_n 0, 1) := by decide +kernel
theorem dX10_book_13 : decode cX10_book 13 = .ok (.iload_n 1, 1) := by decide +kernel
theorem dX10_book_14 : decode cX10_book 14 = .ok (.invokevirtual 184, 3) := by decide +kernel
theorem dX10_book_17 : decode cX10_book 17 = .ok (.ifCond .ne 6, 3) := by decide +kernel
theorem dX10_book_20 : decode cX10_book 20 = .ok (.bipush (-2), 2) := by decide +kernel
theorem dX10_book_22 : decode cX10_book 22 = .ok (.ireturn, 1) := by decide +kernel
theorem dX10_book_23 : decode cX10_book 23 = .ok (.aload_n 0, 1) := by decide +kernel
theorem dX10_book_24 : decode cX10_book 24 = .ok (.getfield 114, 3) := by decide +kernel
theorem dX10_book_27 : decode cX10_book 27 = .ok (.bipush 12, 2) := by decide +kernel
theorem dX10_book_29 : decode cX10_book 29 = .ok (.if_icmp .ne 6, 3) := by decide +kernel
theorem dX10_book_32 : decode cX10_book 32 = .ok (.bipush (-4), 2) := by decide +kernel
theorem dX10_book_34 : decode cX10_book 34 = .ok (.ireturn, 1) := by decide +kernel
theorem dX10_book_35 : decode cX10_book 35 = .ok (.aload_n 0, 1) := by decide +kernel
theorem dX10_book_36 : decode cX10_book 36 = .ok (.getfield 117, 3) := by decide +kernel
theorem dX10_book_39 : decode cX10_book 39 = .ok (.aload_n 0, 1) := by decide +kernel
theorem dX10_book_40 : decode cX10_book 40 = .ok (.getfield 114, 3) := by decide +kernel
theorem dX10_book_43 : decode cX10_book 43 = .ok (.iload_n 1, 1) := by decide +kernel
theorem dX10_book_44 : decode cX10_book 44 = .ok (.iastore, 1) := by decide +kernel
theorem dX10_book_45 : decode cX10_book 45 = .ok (.aload_n 0, 1) := by decide +kernel
theorem dX10_book_46 : decode cX10_book 46 = .ok (.dup, 1) := by decide +kernel
theorem dX10_book_47 : decode cX10_book 47 = .ok (.getfield 114, 3) := by decide +kernel
theorem dX10_book_50 : decode cX10_book 50 = .ok (.iconst 1, 1) := by decide +kernel
theorem dX10_book_51 : decode cX10_book 51 = .ok (.iadd, 1) := by decide +kernel
theorem dX10_book_52 : decode cX10_book 52 = .ok (.putfield 114, 3) := by decide +kernel
theorem dX10_book_55 : decode cX10_book 55 = .ok (.aload_n 0, 1) := by decide +kernel
theorem dX10_book_56 : decode cX10_book 56 = .ok (.getfield 114, 3) := by decide +kernel
theorem dX10_book_59 : decode cX10_book 59 = .ok (.ireturn, 1) := by decide +kernel
theorem dX10_looked_0 : decode cX10_looked 0 = .ok (.aload_n 0, 1) := by decide +kernel
theorem dX10_looked_1 : decode cX10_looked 1 = .ok (.aload_n 0, 1) := by decide +kernel
theorem dX10_looked_2 : decode cX10_looked 2 = .ok (.getfield 117, 3) := by decide +kernel
theorem dX10_looked_5 : decode cX10_looked 5 = .ok (.iconst 0, 1) := by decide +kernel
theorem dX10_looked_6 : decode cX10_looked 6 = .ok (.iaload, 1) := by decide +kernel
theorem dX10_looked_7 : decode cX10_looked 7 = .ok (.putfield 87, 3) := by decide +kernel
theorem dX10_looked_10 : decode cX10_looked 10 = .ok (.iconst 1, 1) := by decide +kernel
theorem dX10_looked_11 : decode cX10_looked 11 = .ok (.istore_n 1, 1) := by decide +kernel
theorem dX10_looked_12 : decode cX10_looked 12 = .ok (.iload_n 1, 1) := by decide +kernel
theorem dX10_looked_13 : decode cX10_looked 13 = .ok (.aload_n 0, 1) := by decide +kernel
theorem dX10_looked_14 : decode cX10_looked 14 = .ok (.getfield 114, 3) := by decide +kernel
theorem dX10_looked_17 : decode cX10_looked 17 = .ok (.if_icmp .ge 58, 3) := by decide +kernel
theorem dX10_looked_20 : decode cX10_looked 20 = .ok (.iload_n 1, 1) := by decide +kernel
theorem dX10_looked_21 : decode cX10_looked 21 = .ok (.aload_n 0, 1) := by decide +kernel
theorem dX10_looked_22 : decode cX10_looked 22 = .ok (.getfield 96, 3) := by decide +kernel
theorem dX10_looked_25 : decode cX10_looked 25 = .ok (.if_icmp .gt 50, 3) := by decide +kernel
theorem dX10_looked_28 : decode cX10_looked 28 = .ok (.aload_n 0, 1) := by decide +kernel
theorem dX10_looked_29 : decode cX10_looked 29 = .ok (.aload_n 0, 1) := by decide +kernel
theorem dX10_looked_30 : decode cX10_looked 30 = .ok (.getfield 102, 3) := by decide +kernel
theorem dX10_looked_33 : decode cX10_looked 33 = .ok (.iload_n 1, 1) := by decide +kernel
theorem dX10_looked_34 : decode cX10_looked 34 = .ok (.iconst 1, 1) := by decide +kernel
theorem dX10_looked_35 : decode cX10_looked 35 = .ok (.isub, 1) := by decide +kernel
theorem dX10_looked_36 : decode cX10_looked 36 = .ok (.iaload, 1) := by decide +kernel
theorem dX10_looked_37 : decode cX10_looked 37 = .ok (.aload_n 0, 1) := by decide +kernel
theorem dX10_looked_38 : decode cX10_looked 38 = .ok (.getfield 19, 3) := by decide +kernel
theorem dX10_looked_41 : decode cX10_looked 41 = .ok (.iload_n 1, 1) := by decide +kernel
theorem dX10_looked_42 : decode cX10_looked 42 = .ok (.iadd, 1) := by decide +kernel
theorem dX10_looked_43 : decode cX10_looked 43 = .ok (.iconst 1, 1) := by decide +kernel
theorem dX10_looked_44 : decode cX10_looked 44 = .ok (.isub, 1) := by decide +kernel
theorem dX10_looked_45 : decode cX10_looked 45 = .ok (.invokevirtual 284, 3) := by decide +kernel
theorem dX10_looked_48 : decode cX10_looked 48 = .ok (.ifCond .ne 6, 3) := by decide +kernel
theorem dX10_looked_51 : decode cX10_looked 51 = .ok (.bipush (-5), 2) := by decide +kernel
theorem dX10_looked_53 : decode cX10_looked 53 = .ok (.ireturn, 1) := by decide +kernel
theorem dX10_looked_54 : decode cX10_looked 54 = .ok (.aload_n 0, 1) := by decide +kernel
theorem dX10_looked_55 : decode cX10_looked 55 = .ok (.getfield 87, 3) := by decide +kernel
theorem dX10_looked_58 : decode cX10_looked 58 = .ok (.aload_n 0, 1) := by decide +kernel
theorem dX10_looked_59 : decode cX10_looked 59 = .ok (.getfield 117, 3) := by decide +kernel
theorem dX10_looked_62 : decode cX10_looked 62 = .ok (.iload_n 1, 1) := by decide +kernel
theorem dX10_looked_63 : decode cX10_looked 63 = .ok (.iaload, 1) := by decide +kernel
theorem dX10_looked_64 : decode cX10_looked 64 = .ok (.if_icmp .eq 5, 3) := by decide +kernel
theorem dX10_looked_67 : decode cX10_looked 67 = .ok (.iload_n 1, 1) := by decide +kernel
theorem dX10_looked_68 : decode cX10_looked 68 = .ok (.ireturn, 1) := by decide +kernel
theorem dX10_looked_69 : decode cX10_looked 69 = .ok (.iinc 1 1, 3) := by decide +kernel
theorem dX10_looked_72 : decode cX10_looked 72 = .ok (.goto (-60), 3) := by decide +kernel
theorem dX10_looked_75 : decode cX10_looked 75 = .ok (.bipush (-5), 2) := by decide +kernel
theorem dX10_looked_77 : decode cX10_looked 77 = .ok (.ireturn, 1) := by decide +kernel
theorem dX10_judge_0 : decode cX10_judge 0 = .ok (.aload_n 0, 1) := by decide +kernel
theorem dX10_judge_1 : decode cX10_judge 1 = .ok (.iload_n 1, 1) := by decide +kernel
theorem dX10_judge_2 : decode cX10_judge 2 = .ok (.invokevirtual 315, 3) := by decide +kernel
theorem dX10_judge_5 : decode cX10_judge 5 = .ok (.ifCond .ne 5, 3) := by decide +kernel
theorem dX10_judge_8 : decode cX10_judge 8 = .ok (.iconst (-1), 1) := by decide +kernel
theorem dX10_judge_9 : decode cX10_judge 9 = .ok (.ireturn, 1) := by decide +kernel
theorem dX10_judge_10 : decode cX10_judge 10 = .ok (.aload_n 0, 1) := by decide +kernel
theorem dX10_judge_11 : decode cX10_judge 11 = .ok (.getfield 166, 3) := by decide +kernel
theorem dX10_judge_14 : decode cX10_judge 14 = .ok (.iload_n 1, 1) := by decide +kernel
theorem dX10_judge_15 : decode cX10_judge 15 = .ok (.iaload, 1) := by decide +kernel
theorem dX10_judge_16 : decode cX10_judge 16 = .ok (.ifCond .lt 16, 3) := by decide +kernel
theorem dX10_judge_19 : decode cX10_judge 19 = .ok (.aload_n 0, 1) := by decide +kernel
theorem dX10_judge_20 : decode cX10_judge 20 = .ok (.getfield 166, 3) := by decide +kernel
theorem dX10_judge_23 : decode cX10_judge 23 = .ok (.iload_n 1, 1) := by decide +kernel
theorem dX10_judge_24 : decode cX10_judge 24 = .ok (.iaload, 1) := by decide +kernel
theorem dX10_judge_25 : decode cX10_judge 25 = .ok (.iconst 3, 1) := by decide +kernel
theorem dX10_judge_26 : decode cX10_judge 26 = .ok (.if_icmp .eq 6, 3) := by decide +kernel
theorem dX10_judge_29 : decode cX10_judge 29 = .ok (.bipush (-12), 2) := by decide +kernel
theorem dX10_judge_31 : decode cX10_judge 31 = .ok (.ireturn, 1) := by decide +kernel
theorem dX10_judge_32 : decode cX10_judge 32 = .ok (.iconst 0, 1) := by decide +kernel
theorem dX10_judge_33 : decode cX10_judge 33 = .ok (.istore_n 3, 1) := by decide +kernel
theorem dX10_judge_34 : decode cX10_judge 34 = .ok (.iload_n 3, 1) := by decide +kernel
theorem dX10_judge_35 : decode cX10_judge 35 = .ok (.aload_n 0, 1) := by decide +kernel
theorem dX10_judge_36 : decode cX10_judge 36 = .ok (.getfield 7, 3) := by decide +kernel
theorem dX10_judge_39 : decode cX10_judge 39 = .ok (.if_icmp .ge 67, 3) := by decide +kernel
theorem dX10_judge_42 : decode cX10_judge 42 = .ok (.aload_n 0, 1) := by decide +kernel
theorem dX10_judge_43 : decode cX10_judge 43 = .ok (.getfield 166, 3) := by decide +kernel
theorem dX10_judge_46 : decode cX10_judge 46 = .ok (.iload_n 1, 1) := by decide +kernel
theorem dX10_judge_47 : decode cX10_judge 47 = .ok (.iaload, 1) := by decide +kernel
theorem dX10_judge_48 : decode cX10_judge 48 = .ok (.ifCond .lt 21, 3) := by decide +kernel
theorem dX10_judge_51 : decode cX10_judge 51 = .ok (.iload_n 2, 1) := by decide +kernel
theorem dX10_judge_52 : decode cX10_judge 52 = .ok (.ifCond .lt 17, 3) := by decide +kernel
theorem dX10_judge_55 : decode cX10_judge 55 = .ok (.iload_n 2, 1) := by decide +kernel
theorem dX10_judge_56 : decode cX10_judge 56 = .ok (.aload_n 0, 1) := by decide +kernel
theorem dX10_judge_57 : decode cX10_judge 57 = .ok (.getfield 169, 3) := by decide +kernel
theorem dX10_judge_60 : decode cX10_judge 60 = .ok (.iload_n 1, 1) := by decide +kernel
theorem dX10_judge_61 : decode cX10_judge 61 = .ok (.iaload, 1) := by decide +kernel
theorem dX10_judge_62 : decode cX10_judge 62 = .ok (.iload_n 3, 1) := by decide +kernel
theorem dX10_judge_63 : decode cX10_judge 63 = .ok (.isub, 1) := by decide +kernel
theorem dX10_judge_64 : decode cX10_judge 64 = .ok (.iconst 1, 1) := by decide +kernel
theorem dX10_judge_65 : decode cX10_judge 65 = .ok (.isub, 1) := by decide +kernel
theorem dX10_judge_66 : decode cX10_judge 66 = .ok (.if_icmp .le 8, 3) := by decide +kernel
theorem dX10_judge_69 : decode cX10_judge 69 = .ok (.bipush 100, 2) := by decide +kernel
theorem dX10_judge_71 : decode cX10_judge 71 = .ok (.iload_n 3, 1) := by decide +kernel
theorem dX10_judge_72 : decode cX10_judge 72 = .ok (.iadd, 1) := by decide +kernel
theorem dX10_judge_73 : decode cX10_judge 73 = .ok (.ireturn, 1) := by decide +kernel
theorem dX10_judge_74 : decode cX10_judge 74 = .ok (.aload_n 0, 1) := by decide +kernel
theorem dX10_judge_75 : decode cX10_judge 75 = .ok (.getfield 172, 3) := by decide +kernel
theorem dX10_judge_78 : decode cX10_judge 78 = .ok (.bipush 60, 2) := by decide +kernel
theorem dX10_judge_80 : decode cX10_judge 80 = .ok (.iload_n 1, 1) := by decide +kernel
theorem dX10_judge_81 : decode cX10_judge 81 = .ok (.imul, 1) := by decide +kernel
theorem dX10_judge_82 : decode cX10_judge 82 = .ok (.iload_n 2, 1) := by decide +kernel
theorem dX10_judge_83 : decode cX10_judge 83 = .ok (.iadd, 1) := by decide +kernel
theorem dX10_judge_84 : decode cX10_judge 84 = .ok (.iload_n 3, 1) := by decide +kernel
theorem dX10_judge_85 : decode cX10_judge 85 = .ok (.iadd, 1) := by decide +kernel
theorem dX10_judge_86 : decode cX10_judge 86 = .ok (.laload, 1) := by decide +kernel
theorem dX10_judge_87 : decode cX10_judge 87 = .ok (.aload_n 0, 1) := by decide +kernel
theorem dX10_judge_88 : decode cX10_judge 88 = .ok (.getfield 29, 3) := by decide +kernel
theorem dX10_judge_91 : decode cX10_judge 91 = .ok (.iload_n 3, 1) := by decide +kernel
theorem dX10_judge_92 : decode cX10_judge 92 = .ok (.iaload, 1) := by decide +kernel
theorem dX10_judge_93 : decode cX10_judge 93 = .ok (.i2l, 1) := by decide +kernel
theorem dX10_judge_94 : decode cX10_judge 94 = .ok (.lcmp, 1) := by decide +kernel
theorem dX10_judge_95 : decode cX10_judge 95 = .ok (.ifCond .eq 5, 3) := by decide +kernel
theorem dX10_judge_98 : decode cX10_judge 98 = .ok (.iload_n 3, 1) := by decide +kernel
theorem dX10_judge_99 : decode cX10_judge 99 = .ok (.ireturn, 1) := by decide +kernel
theorem dX10_judge_100 : decode cX10_judge 100 = .ok (.iinc 3 1, 3) := by decide +kernel
theorem dX10_judge_103 : decode cX10_judge 103 = .ok (.goto (-69), 3) := by decide +kernel
theorem dX10_judge_106 : decode cX10_judge 106 = .ok (.bipush (-5), 2) := by decide +kernel
theorem dX10_judge_108 : decode cX10_judge 108 = .ok (.ireturn, 1) := by decide +kernel
theorem dX10_image_0 : decode cX10_image 0 = .ok (.aload_n 0, 1) := by decide +kernel
theorem dX10_image_1 : decode cX10_image 1 = .ok (.iconst 1, 1) := by decide +kernel
theorem dX10_image_2 : decode cX10_image 2 = .ok (.putfield 120, 3) := by decide +kernel
theorem dX10_image_5 : decode cX10_image 5 = .ok (.aload_n 0, 1) := by decide +kernel
theorem dX10_image_6 : decode cX10_image 6 = .ok (.aload_n 0, 1) := by decide +kernel
theorem dX10_image_7 : decode cX10_image 7 = .ok (.getfield 35, 3) := by decide +kernel
theorem dX10_image_10 : decode cX10_image 10 = .ok (.putfield 124, 3) := by decide +kernel
theorem dX10_image_13 : decode cX10_image 13 = .ok (.aload_n 0, 1) := by decide +kernel
theorem dX10_image_14 : decode cX10_image 14 = .ok (.aload_n 0, 1) := by decide +kernel
theorem dX10_image_15 : decode cX10_image 15 = .ok (.getfield 7, 3) := by decide +kernel
theorem dX10_image_18 : decode cX10_image 18 = .ok (.putfield 127, 3) := by decide +kernel
theorem dX10_image_21 : decode cX10_image 21 = .ok (.aload_n 0, 1) := by decide +kernel
theorem dX10_image_22 : decode cX10_image 22 = .ok (.aload_n 0, 1) := by decide +kernel
theorem dX10_image_23 : decode cX10_image 23 = .ok (.getfield 13, 3) := by decide +kernel
theorem dX10_image_26 : decode cX10_image 26 = .ok (.putfield 130, 3) := by decide +kernel
theorem dX10_image_29 : decode cX10_image 29 = .ok (.aload_n 0, 1) := by decide +kernel
theorem dX10_image_30 : decode cX10_image 30 = .ok (.aload_n 0, 1) := by decide +kernel
theorem dX10_image_31 : decode cX10_image 31 = .ok (.getfield 16, 3) := by decide +kernel
theorem dX10_image_34 : decode cX10_image 34 = .ok (.putfield 133, 3) := by decide +kernel
theorem dX10_image_37 : decode cX10_image 37 = .ok (.aload_n 0, 1) := by decide +kernel
theorem dX10_image_38 : decode cX10_image 38 = .ok (.aload_n 0, 1) := by decide +kernel
theorem dX10_image_39 : decode cX10_image 39 = .ok (.getfield 19, 3) := by decide +kernel
theorem dX10_image_42 : decode cX10_image 42 = .ok (.putfield 136, 3) := by decide +kernel
theorem dX10_image_45 : decode cX10_image 45 = .ok (.aload_n 0, 1) := by decide +kernel
theorem dX10_image_46 : decode cX10_image 46 = .ok (.aload_n 0, 1) := by decide +kernel
theorem dX10_image_47 : decode cX10_image 47 = .ok (.getfield 96, 3) := by decide +kernel
theorem dX10_image_50 : decode cX10_image 50 = .ok (.putfield 139, 3) := by decide +kernel
theorem dX10_image_53 : decode cX10_image 53 = .ok (.aload_n 0, 1) := by decide +kernel
theorem dX10_image_54 : decode cX10_image 54 = .ok (.aload_n 0, 1) := by decide +kernel
theorem dX10_image_55 : decode cX10_image 55 = .ok (.getfield 114, 3) := by decide +kernel
theorem dX10_image_58 : decode cX10_image 58 = .ok (.putfield 142, 3) := by decide +kernel
theorem dX10_image_61 : decode cX10_image 61 = .ok (.iconst 0, 1) := by decide +kernel
theorem dX10_image_62 : decode cX10_image 62 = .ok (.istore_n 1, 1) := by decide +kernel
theorem dX10_image_63 : decode cX10_image 63 = .ok (.iload_n 1, 1) := by decide +kernel
theorem dX10_image_64 : decode cX10_image 64 = .ok (.bipush 6, 2) := by decide +kernel
theorem dX10_image_66 : decode cX10_image 66 = .ok (.if_icmp .ge 45, 3) := by decide +kernel
theorem dX10_image_69 : decode cX10_image 69 = .ok (.aload_n 0, 1) := by decide +kernel
theorem dX10_image_70 : decode cX10_image 70 = .ok (.getfield 145, 3) := by decide +kernel
theorem dX10_image_73 : decode cX10_image 73 = .ok (.iload_n 1, 1) := by decide +kernel
theorem dX10_image_74 : decode cX10_image 74 = .ok (.aload_n 0, 1) := by decide +kernel
theorem dX10_image_75 : decode cX10_image 75 = .ok (.getfield 22, 3) := by decide +kernel
theorem dX10_image_78 : decode cX10_image 78 = .ok (.iload_n 1, 1) := by decide +kernel
theorem dX10_image_79 : decode cX10_image 79 = .ok (.iaload, 1) := by decide +kernel
theorem dX10_image_80 : decode cX10_image 80 = .ok (.iastore, 1) := by decide +kernel
theorem dX10_image_81 : decode cX10_image 81 = .ok (.aload_n 0, 1) := by decide +kernel
theorem dX10_image_82 : decode cX10_image 82 = .ok (.getfield 148, 3) := by decide +kernel
theorem dX10_image_85 : decode cX10_image 85 = .ok (.iload_n 1, 1) := by decide +kernel
theorem dX10_image_86 : decode cX10_image 86 = .ok (.aload_n 0, 1) := by decide +kernel
theorem dX10_image_87 : decode cX10_image 87 = .ok (.getfield 26, 3) := by decide +kernel
theorem dX10_image_90 : decode cX10_image 90 = .ok (.iload_n 1, 1) := by decide +kernel
theorem dX10_image_91 : decode cX10_image 91 = .ok (.iaload, 1) := by decide +kernel
theorem dX10_image_92 : decode cX10_image 92 = .ok (.iastore, 1) := by decide +kernel
theorem dX10_image_93 : decode cX10_image 93 = .ok (.aload_n 0, 1) := by decide +kernel
theorem dX10_image_94 : decode cX10_image 94 = .ok (.getfield 151, 3) := by decide +kernel
theorem dX10_image_97 : decode cX10_image 97 = .ok (.iload_n 1, 1) := by decide +kernel
theorem dX10_image_98 : decode cX10_image 98 = .ok (.aload_n 0, 1) := by decide +kernel
theorem dX10_image_99 : decode cX10_image 99 = .ok (.getfield 29, 3) := by decide +kernel
theorem dX10_image_102 : decode cX10_image 102 = .ok (.iload_n 1, 1) := by decide +kernel
theorem dX10_image_103 : decode cX10_image 103 = .ok (.iaload, 1) := by decide +kernel
theorem dX10_image_104 : decode cX10_image 104 = .ok (.iastore, 1) := by decide +kernel
theorem dX10_image_105 : decode cX10_image 105 = .ok (.iinc 1 1, 3) := by decide +kernel
theorem dX10_image_108 : decode cX10_image 108 = .ok (.goto (-45), 3) := by decide +kernel
theorem dX10_image_111 : decode cX10_image 111 = .ok (.iconst 0, 1) := by decide +kernel
theorem dX10_image_112 : decode cX10_image 112 = .ok (.istore_n 1, 1) := by decide +kernel
theorem dX10_image_113 : decode cX10_image 113 = .ok (.iload_n 1, 1) := by decide +kernel
theorem dX10_image_114 : decode cX10_image 114 = .ok (.bipush 8, 2) := by decide +kernel
theorem dX10_image_116 : decode cX10_image 116 = .ok (.if_icmp .ge 21, 3) := by decide +kernel
theorem dX10_image_119 : decode cX10_image 119 = .ok (.aload_n 0, 1) := by decide +kernel
theorem dX10_image_120 : decode cX10_image 120 = .ok (.getfield 154, 3) := by decide +kernel
theorem dX10_image_123 : decode cX10_image 123 = .ok (.iload_n 1, 1) := by decide +kernel
theorem dX10_image_124 : decode cX10_image 124 = .ok (.aload_n 0, 1) := by decide +kernel
theorem dX10_image_125 : decode cX10_image 125 = .ok (.getfield 102, 3) := by decide +kernel
theorem dX10_image_128 : decode cX10_image 128 = .ok (.iload_n 1, 1) := by decide +kernel
theorem dX10_image_129 : decode cX10_image 129 = .ok (.iaload, 1) := by decide +kernel
theorem dX10_image_130 : decode cX10_image 130 = .ok (.iastore, 1) := by decide +kernel
theorem dX10_image_131 : decode cX10_image 131 = .ok (.iinc 1 1, 3) := by decide +kernel
theorem dX10_image_134 : decode cX10_image 134 = .ok (.goto (-21), 3) := by decide +kernel
theorem dX10_image_137 : decode cX10_image 137 = .ok (.iconst 0, 1) := by decide +kernel
theorem dX10_image_138 : decode cX10_image 138 = .ok (.istore_n 1, 1) := by decide +kernel
theorem dX10_image_139 : decode cX10_image 139 = .ok (.iload_n 1, 1) := by decide +kernel
theorem dX10_image_140 : decode cX10_image 140 = .ok (.bipush 12, 2) := by decide +kernel
theorem dX10_image_142 : decode cX10_image 142 = .ok (.if_icmp .ge 21, 3) := by decide +kernel
theorem dX10_image_145 : decode cX10_image 145 = .ok (.aload_n 0, 1) := by decide +kernel
theorem dX10_image_146 : decode cX10_image 146 = .ok (.getfield 157, 3) := by decide +kernel
theorem dX10_image_149 : decode cX10_image 149 = .ok (.iload_n 1, 1) := by decide +kernel
theorem dX10_image_150 : decode cX10_image 150 = .ok (.aload_n 0, 1) := by decide +kernel
theorem dX10_image_151 : decode cX10_image 151 = .ok (.getfield 117, 3) := by decide +kernel
theorem dX10_image_154 : decode cX10_image 154 = .ok (.iload_n 1, 1) := by decide +kernel
theorem dX10_image_155 : decode cX10_image 155 = .ok (.iaload, 1) := by decide +kernel
theorem dX10_image_156 : decode cX10_image 156 = .ok (.iastore, 1) := by decide +kernel
theorem dX10_image_157 : decode cX10_image 157 = .ok (.iinc 1 1, 3) := by decide +kernel
theorem dX10_image_160 : decode cX10_image 160 = .ok (.goto (-21), 3) := by decide +kernel
theorem dX10_image_163 : decode cX10_image 163 = .ok (.aload_n 0, 1) := by decide +kernel
theorem dX10_image_164 : decode cX10_image 164 = .ok (.getfield 7, 3) := by decide +kernel
theorem dX10_image_167 : decode cX10_image 167 = .ok (.ireturn, 1) := by decide +kernel
theorem dX10_undo_0 : decode cX10_undo 0 = .ok (.aload_n 0, 1) := by decide +kernel
theorem dX10_undo_1 : decode cX10_undo 1 = .ok (.getfield 120, 3) := by decide +kernel
theorem dX10_undo_4 : decode cX10_undo 4 = .ok (.ifCond .ne 6, 3) := by decide +kernel
theorem dX10_undo_7 : decode cX10_undo 7 = .ok (.bipush (-3), 2) := by decide +kernel
theorem dX10_undo_9 : decode cX10_undo 9 = .ok (.ireturn, 1) := by decide +kernel
theorem dX10_undo_10 : decode cX10_undo 10 = .ok (.aload_n 0, 1) := by decide +kernel
theorem dX10_undo_11 : decode cX10_undo 11 = .ok (.aload_n 0, 1) := by decide +kernel
theorem dX10_undo_12 : decode cX10_undo 12 = .ok (.getfield 124, 3) := by decide +kernel
theorem dX10_undo_15 : decode cX10_undo 15 = .ok (.putfield 35, 3) := by decide +kernel
theorem dX10_undo_18 : decode cX10_undo 18 = .ok (.aload_n 0, 1) := by decide +kernel
theorem dX10_undo_19 : decode cX10_undo 19 = .ok (.aload_n 0, 1) := by decide +kernel
theorem dX10_undo_20 : decode cX10_undo 20 = .ok (.getfield 127, 3) := by decide +kernel
theorem dX10_undo_23 : decode cX10_undo 23 = .ok (.putfield 7, 3) := by decide +kernel
theorem dX10_undo_26 : decode cX10_undo 26 = .ok (.aload_n 0, 1) := by decide +kernel
theorem dX10_undo_27 : decode cX10_undo 27 = .ok (.aload_n 0, 1) := by decide +kernel
theorem dX10_undo_28 : decode cX10_undo 28 = .ok (.getfield 130, 3) := by decide +kernel
theorem dX10_undo_31 : decode cX10_undo 31 = .ok (.putfield 13, 3) := by decide +kernel
theorem dX10_undo_34 : decode cX10_undo 34 = .ok (.aload_n 0, 1) := by decide +kernel
theorem dX10_undo_35 : decode cX10_undo 35 = .ok (.aload_n 0, 1) := by decide +kernel
theorem dX10_undo_36 : decode cX10_undo 36 = .ok (.getfield 133, 3) := by decide +kernel
theorem dX10_undo_39 : decode cX10_undo 39 = .ok (.putfield 16, 3) := by decide +kernel
theorem dX10_undo_42 : decode cX10_undo 42 = .ok (.aload_n 0, 1) := by decide +kernel
theorem dX10_undo_43 : decode cX10_undo 43 = .ok (.aload_n 0, 1) := by decide +kernel
theorem dX10_undo_44 : decode cX10_undo 44 = .ok (.getfield 136, 3) := by decide +kernel
theorem dX10_undo_47 : decode cX10_undo 47 = .ok (.putfield 19, 3) := by decide +kernel
theorem dX10_undo_50 : decode cX10_undo 50 = .ok (.aload_n 0, 1) := by decide +kernel
theorem dX10_undo_51 : decode cX10_undo 51 = .ok (.aload_n 0, 1) := by decide +kernel
theorem dX10_undo_52 : decode cX10_undo 52 = .ok (.getfield 139, 3) := by decide +kernel
theorem dX10_undo_55 : decode cX10_undo 55 = .ok (.putfield 96, 3) := by decide +kernel
theorem dX10_undo_58 : decode cX10_undo 58 = .ok (.aload_n 0, 1) := by decide +kernel
theorem dX10_undo_59 : decode cX10_undo 59 = .ok (.aload_n 0, 1) := by decide +kernel
theorem dX10_undo_60 : decode cX10_undo 60 = .ok (.getfield 142, 3) := by decide +kernel
theorem dX10_undo_63 : decode cX10_undo 63 = .ok (.putfield 114, 3) := by decide +kernel
theorem dX10_undo_66 : decode cX10_undo 66 = .ok (.iconst 0, 1) := by decide +kernel
theorem dX10_undo_67 : decode cX10_undo 67 = .ok (.istore_n 1, 1) := by decide +kernel
theorem dX10_undo_68 : decode cX10_undo 68 = .ok (.iload_n 1, 1) := by decide +kernel
theorem dX10_undo_69 : decode cX10_undo 69 = .ok (.bipush 6, 2) := by decide +kernel
theorem dX10_undo_71 : decode cX10_undo 71 = .ok (.if_icmp .ge 45, 3) := by decide +kernel
theorem dX10_undo_74 : decode cX10_undo 74 = .ok (.aload_n 0, 1) := by decide +kernel
theorem dX10_undo_75 : decode cX10_undo 75 = .ok (.getfield 22, 3) := by decide +kernel
theorem dX10_undo_78 : decode cX10_undo 78 = .ok (.iload_n 1, 1) := by decide +kernel
theorem dX10_undo_79 : decode cX10_undo 79 = .ok (.aload_n 0, 1) := by decide +kernel
theorem dX10_undo_80 : decode cX10_undo 80 = .ok (.getfield 145, 3) := by decide +kernel
theorem dX10_undo_83 : decode cX10_undo 83 = .ok (.iload_n 1, 1) := by decide +kernel
theorem dX10_undo_84 : decode cX10_undo 84 = .ok (.iaload, 1) := by decide +kernel
theorem dX10_undo_85 : decode cX10_undo 85 = .ok (.iastore, 1) := by decide +kernel
theorem dX10_undo_86 : decode cX10_undo 86 = .ok (.aload_n 0, 1) := by decide +kernel
theorem dX10_undo_87 : decode cX10_undo 87 = .ok (.getfield 26, 3) := by decide +kernel
theorem dX10_undo_90 : decode cX10_undo 90 = .ok (.iload_n 1, 1) := by decide +kernel
theorem dX10_undo_91 : decode cX10_undo 91 = .ok (.aload_n 0, 1) := by decide +kernel
theorem dX10_undo_92 : decode cX10_undo 92 = .ok (.getfield 148, 3) := by decide +kernel
theorem dX10_undo_95 : decode cX10_undo 95 = .ok (.iload_n 1, 1) := by decide +kernel
theorem dX10_undo_96 : decode cX10_undo 96 = .ok (.iaload, 1) := by decide +kernel
theorem dX10_undo_97 : decode cX10_undo 97 = .ok (.iastore, 1) := by decide +kernel
theorem dX10_undo_98 : decode cX10_undo 98 = .ok (.aload_n 0, 1) := by decide +kernel
theorem dX10_undo_99 : decode cX10_undo 99 = .ok (.getfield 29, 3) := by decide +kernel
theorem dX10_undo_102 : decode cX10_undo 102 = .ok (.iload_n 1, 1) := by decide +kernel
theorem dX10_undo_103 : decode cX10_undo 103 = .ok (.aload_n 0, 1) := by decide +kernel
theorem dX10_undo_104 : decode cX10_undo 104 = .ok (.getfield 151, 3) := by decide +kernel
theorem dX10_undo_107 : decode cX10_undo 107 = .ok (.iload_n 1, 1) := by decide +kernel
theorem dX10_undo_108 : decode cX10_undo 108 = .ok (.iaload, 1) := by decide +kernel
theorem dX10_undo_109 : decode cX10_undo 109 = .ok (.iastore, 1) := by decide +kernel
theorem dX10_undo_110 : decode cX10_undo 110 = .ok (.iinc 1 1, 3) := by decide +kernel
theorem dX10_undo_113 : decode cX10_undo 113 = .ok (.goto (-45), 3) := by decide +kernel
theorem dX10_undo_116 : decode cX10_undo 116 = .ok (.iconst 0, 1) := by decide +kernel
theorem dX10_undo_117 : decode cX10_undo 117 = .ok (.istore_n 1, 1) := by decide +kernel
theorem dX10_undo_118 : decode cX10_undo 118 = .ok (.iload_n 1, 1) := by decide +kernel
theorem dX10_undo_119 : decode cX10_undo 119 = .ok (.bipush 8, 2) := by decide +kernel
theorem dX10_undo_121 : decode cX10_undo 121 = .ok (.if_icmp .ge 21, 3) := by decide +kernel
theorem dX10_undo_124 : decode cX10_undo 124 = .ok (.aload_n 0, 1) := by decide +kernel
theorem dX10_undo_125 : decode cX10_undo 125 = .ok (.getfield 102, 3) := by decide +kernel
theorem dX10_undo_128 : decode cX10_undo 128 = .ok (.iload_n 1, 1) := by decide +kernel
theorem dX10_undo_129 : decode cX10_undo 129 = .ok (.aload_n 0, 1) := by decide +kernel
theorem dX10_undo_130 : decode cX10_undo 130 = .ok (.getfield 154, 3) := by decide +kernel
theorem dX10_undo_133 : decode cX10_undo 133 = .ok (.iload_n 1, 1) := by decide +kernel
theorem dX10_undo_134 : decode cX10_undo 134 = .ok (.iaload, 1) := by decide +kernel
theorem dX10_undo_135 : decode cX10_undo 135 = .ok (.iastore, 1) := by decide +kernel
theorem dX10_undo_136 : decode cX10_undo 136 = .ok (.iinc 1 1, 3) := by decide +kernel
theorem dX10_undo_139 : decode cX10_undo 139 = .ok (.goto (-21), 3) := by decide +kernel
theorem dX10_undo_142 : decode cX10_undo 142 = .ok (.iconst 0, 1) := by decide +kernel
theorem dX10_undo_143 : decode cX10_undo 143 = .ok (.istore_n 1, 1) := by decide +kernel
theorem dX10_undo_144 : decode cX10_undo 144 = .ok (.iload_n 1, 1) := by decide +kernel
theorem dX10_undo_145 : decode cX10_undo 145 = .ok (.bipush 12, 2) := by decide +kernel
theorem dX10_undo_147 : decode cX10_undo 147 = .ok (.if_icmp .ge 21, 3) := by decide +kernel
theorem dX10_undo_150 : decode cX10_undo 150 = .ok (.aload_n 0, 1) := by decide +kernel
theorem dX10_undo_151 : decode cX10_undo 151 = .ok (.getfield 117, 3) := by decide +kernel
theorem dX10_undo_154 : decode cX10_undo 154 = .ok (.iload_n 1, 1) := by decide +kernel
theorem dX10_undo_155 : decode cX10_undo 155 = .ok (.aload_n 0, 1) := by decide +kernel
theorem dX10_undo_156 : decode cX10_undo 156 = .ok (.getfield 157, 3) := by decide +kernel
theorem dX10_undo_159 : decode cX10_undo 159 = .ok (.iload_n 1, 1) := by decide +kernel
theorem dX10_undo_160 : decode cX10_undo 160 = .ok (.iaload, 1) := by decide +kernel
theorem dX10_undo_161 : decode cX10_undo 161 = .ok (.iastore, 1) := by decide +kernel
theorem dX10_undo_162 : decode cX10_undo 162 = .ok (.iinc 1 1, 3) := by decide +kernel
theorem dX10_undo_165 : decode cX10_undo 165 = .ok (.goto (-21), 3) := by decide +kernel
theorem dX10_undo_168 : decode cX10_undo 168 = .ok (.aload_n 0, 1) := by decide +kernel
theorem dX10_undo_169 : decode cX10_undo 169 = .ok (.getfield 7, 3) := by decide +kernel
theorem dX10_undo_172 : decode cX10_undo 172 = .ok (.ireturn, 1) := by decide +kernel
theorem dX10_body_0 : decode cX10_body 0 = .ok (.aload_n 0, 1) := by decide +kernel
theorem dX10_body_1 : decode cX10_body 1 = .ok (.getfield 160, 3) := by decide +kernel
theorem dX10_body_4 : decode cX10_body 4 = .ok (.bipush 20, 2) := by decide +kernel
theorem dX10_body_6 : decode cX10_body 6 = .ok (.if_icmp .ge 13, 3) := by decide +kernel
theorem dX10_body_9 : decode cX10_body 9 = .ok (.aload_n 0, 1) := by decide +kernel
theorem dX10_body_10 : decode cX10_body 10 = .ok (.getfield 163, 3) := by decide +kernel
theorem dX10_body_13 : decode cX10_body 13 = .ok (.aload_n 0, 1) := by decide +kernel
theorem dX10_body_14 : decode cX10_body 14 = .ok (.getfield 160, 3) := by decide +kernel
theorem dX10_body_17 : decode cX10_body 17 = .ok (.iload_n 1, 1) := by decide +kernel
theorem dX10_body_18 : decode cX10_body 18 = .ok (.iastore, 1) := by decide +kernel
theorem dX10_body_19 : decode cX10_body 19 = .ok (.aload_n 0, 1) := by decide +kernel
theorem dX10_body_20 : decode cX10_body 20 = .ok (.dup, 1) := by decide +kernel
theorem dX10_body_21 : decode cX10_body 21 = .ok (.getfield 160, 3) := by decide +kernel
theorem dX10_body_24 : decode cX10_body 24 = .ok (.iconst 1, 1) := by decide +kernel
theorem dX10_body_25 : decode cX10_body 25 = .ok (.iadd, 1) := by decide +kernel
theorem dX10_body_26 : decode cX10_body 26 = .ok (.putfield 160, 3) := by decide +kernel
theorem dX10_body_29 : decode cX10_body 29 = .ok (.return_, 1) := by decide +kernel
theorem dX10_manWakes_0 : decode cX10_manWakes 0 = .ok (.aload_n 0, 1) := by decide +kernel
theorem dX10_manWakes_1 : decode cX10_manWakes 1 = .ok (.bipush 10, 2) := by decide +kernel
theorem dX10_manWakes_3 : decode cX10_manWakes 3 = .ok (.invokevirtual 318, 3) := by decide +kernel
theorem dX10_manWakes_6 : decode cX10_manWakes 6 = .ok (.iload_n 2, 1) := by decide +kernel
theorem dX10_manWakes_7 : decode cX10_manWakes 7 = .ok (.iload_n 1, 1) := by decide +kernel
theorem dX10_manWakes_8 : decode cX10_manWakes 8 = .ok (.iadd, 1) := by decide +kernel
theorem dX10_manWakes_9 : decode cX10_manWakes 9 = .ok (.ireturn, 1) := by decide +kernel
theorem dX10_wakesAct_0 : decode cX10_wakesAct 0 = .ok (.aload_n 0, 1) := by decide +kernel
theorem dX10_wakesAct_1 : decode cX10_wakesAct 1 = .ok (.getfield 22, 3) := by decide +kernel
theorem dX10_wakesAct_4 : decode cX10_wakesAct 4 = .ok (.iload_n 1, 1) := by decide +kernel
theorem dX10_wakesAct_5 : decode cX10_wakesAct 5 = .ok (.iaload, 1) := by decide +kernel
theorem dX10_wakesAct_6 : decode cX10_wakesAct 6 = .ok (.tableswitch 83 2 6 #[34, 83, 49, 34, 63], 34) := by decide +kernel
theorem dX10_wakesAct_40 : decode cX10_wakesAct 40 = .ok (.aload_n 0, 1) := by decide +kernel
theorem dX10_wakesAct_41 : decode cX10_wakesAct 41 = .ok (.bipush 30, 2) := by decide +kernel
theorem dX10_wakesAct_43 : decode cX10_wakesAct 43 = .ok (.invokevirtual 318, 3) := by decide +kernel
theorem dX10_wakesAct_46 : decode cX10_wakesAct 46 = .ok (.aload_n 0, 1) := by decide +kernel
theorem dX10_wakesAct_47 : decode cX10_wakesAct 47 = .ok (.iload_n 1, 1) := by decide +kernel
theorem dX10_wakesAct_48 : decode cX10_wakesAct 48 = .ok (.iload_n 2, 1) := by decide +kernel
theorem dX10_wakesAct_49 : decode cX10_wakesAct 49 = .ok (.iconst 3, 1) := by decide +kernel
theorem dX10_wakesAct_50 : decode cX10_wakesAct 50 = .ok (.imul, 1) := by decide +kernel
theorem dX10_wakesAct_51 : decode cX10_wakesAct 51 = .ok (.invokevirtual 321, 3) := by decide +kernel
theorem dX10_wakesAct_54 : decode cX10_wakesAct 54 = .ok (.ireturn, 1) := by decide +kernel
theorem dX10_wakesAct_55 : decode cX10_wakesAct 55 = .ok (.aload_n 0, 1) := by decide +kernel
theorem dX10_wakesAct_56 : decode cX10_wakesAct 56 = .ok (.bipush 50, 2) := by decide +kernel
theorem dX10_wakesAct_58 : decode cX10_wakesAct 58 = .ok (.invokevirtual 318, 3) := by decide +kernel
theorem dX10_wakesAct_61 : decode cX10_wakesAct 61 = .ok (.aload_n 0, 1) := by decide +kernel
theorem dX10_wakesAct_62 : decode cX10_wakesAct 62 = .ok (.iload_n 1, 1) := by decide +kernel
theorem dX10_wakesAct_63 : decode cX10_wakesAct 63 = .ok (.iload_n 2, 1) := by decide +kernel
theorem dX10_wakesAct_64 : decode cX10_wakesAct 64 = .ok (.invokevirtual 321, 3) := by decide +kernel
theorem dX10_wakesAct_67 : decode cX10_wakesAct 67 = .ok (.ineg, 1) := by decide +kernel
theorem dX10_wakesAct_68 : decode cX10_wakesAct 68 = .ok (.ireturn, 1) := by decide +kernel
theorem dX10_wakesAct_69 : decode cX10_wakesAct 69 = .ok (.aload_n 0, 1) := by decide +kernel
theorem dX10_wakesAct_70 : decode cX10_wakesAct 70 = .ok (.bipush 71, 2) := by decide +kernel
theorem dX10_wakesAct_72 : decode cX10_wakesAct 72 = .ok (.invokevirtual 318, 3) := by decide +kernel
theorem dX10_wakesAct_75 : decode cX10_wakesAct 75 = .ok (.aload_n 0, 1) := by decide +kernel
theorem dX10_wakesAct_76 : decode cX10_wakesAct 76 = .ok (.iload_n 1, 1) := by decide +kernel
theorem dX10_wakesAct_77 : decode cX10_wakesAct 77 = .ok (.iload_n 2, 1) := by decide +kernel
theorem dX10_wakesAct_78 : decode cX10_wakesAct 78 = .ok (.invokevirtual 321, 3) := by decide +kernel
theorem dX10_wakesAct_81 : decode cX10_wakesAct 81 = .ok (.aload_n 0, 1) := by decide +kernel
theorem dX10_wakesAct_82 : decode cX10_wakesAct 82 = .ok (.getfield 26, 3) := by decide +kernel
theorem dX10_wakesAct_85 : decode cX10_wakesAct 85 = .ok (.iload_n 1, 1) := by decide +kernel
theorem dX10_wakesAct_86 : decode cX10_wakesAct 86 = .ok (.iaload, 1) := by decide +kernel
theorem dX10_wakesAct_87 : decode cX10_wakesAct 87 = .ok (.ixor, 1) := by decide +kernel
theorem dX10_wakesAct_88 : decode cX10_wakesAct 88 = .ok (.ireturn, 1) := by decide +kernel
theorem dX10_wakesAct_89 : decode cX10_wakesAct 89 = .ok (.aload_n 0, 1) := by decide +kernel
theorem dX10_wakesAct_90 : decode cX10_wakesAct 90 = .ok (.iload_n 1, 1) := by decide +kernel
theorem dX10_wakesAct_91 : decode cX10_wakesAct 91 = .ok (.iload_n 2, 1) := by decide +kernel
theorem dX10_wakesAct_92 : decode cX10_wakesAct 92 = .ok (.invokevirtual 321, 3) := by decide +kernel
theorem dX10_wakesAct_95 : decode cX10_wakesAct 95 = .ok (.ireturn, 1) := by decide +kernel
theorem dX10_manHides_0 : decode cX10_manHides 0 = .ok (.aload_n 0, 1) := by decide +kernel
theorem dX10_manHides_1 : decode cX10_manHides 1 = .ok (.bipush 11, 2) := by decide +kernel
theorem dX10_manHides_3 : decode cX10_manHides 3 = .ok (.invokevirtual 318, 3) := by decide +kernel
theorem dX10_manHides_6 : decode cX10_manHides 6 = .ok (.aload_n 0, 1) := by decide +kernel
theorem dX10_manHides_7 : decode cX10_manHides 7 = .ok (.iload_n 1, 1) := by decide +kernel
theorem dX10_manHides_8 : decode cX10_manHides 8 = .ok (.iload_n 2, 1) := by decide +kernel
theorem dX10_manHides_9 : decode cX10_manHides 9 = .ok (.invokevirtual 324, 3) := by decide +kernel
theorem dX10_manHides_12 : decode cX10_manHides 12 = .ok (.aload_n 0, 1) := by decide +kernel
theorem dX10_manHides_13 : decode cX10_manHides 13 = .ok (.getfield 26, 3) := by decide +kernel
theorem dX10_manHides_16 : decode cX10_manHides 16 = .ok (.iload_n 1, 1) := by decide +kernel
theorem dX10_manHides_17 : decode cX10_manHides 17 = .ok (.iaload, 1) := by decide +kernel
theorem dX10_manHides_18 : decode cX10_manHides 18 = .ok (.isub, 1) := by decide +kernel
theorem dX10_manHides_19 : decode cX10_manHides 19 = .ok (.ireturn, 1) := by decide +kernel
theorem dX10_sharingHides_0 : decode cX10_sharingHides 0 = .ok (.aload_n 0, 1) := by decide +kernel
theorem dX10_sharingHides_1 : decode cX10_sharingHides 1 = .ok (.bipush 20, 2) := by decide +kernel
theorem dX10_sharingHides_3 : decode cX10_sharingHides 3 = .ok (.invokevirtual 318, 3) := by decide +kernel
theorem dX10_sharingHides_6 : decode cX10_sharingHides 6 = .ok (.aload_n 0, 1) := by decide +kernel
theorem dX10_sharingHides_7 : decode cX10_sharingHides 7 = .ok (.iload_n 1, 1) := by decide +kernel
theorem dX10_sharingHides_8 : decode cX10_sharingHides 8 = .ok (.iload_n 2, 1) := by decide +kernel
theorem dX10_sharingHides_9 : decode cX10_sharingHides 9 = .ok (.invokevirtual 327, 3) := by decide +kernel
theorem dX10_sharingHides_12 : decode cX10_sharingHides 12 = .ok (.bipush 6, 2) := by decide +kernel
theorem dX10_sharingHides_14 : decode cX10_sharingHides 14 = .ok (.ixor, 1) := by decide +kernel
theorem dX10_sharingHides_15 : decode cX10_sharingHides 15 = .ok (.ireturn, 1) := by decide +kernel
theorem dX10_hidesAct_0 : decode cX10_hidesAct 0 = .ok (.aload_n 0, 1) := by decide +kernel
theorem dX10_hidesAct_1 : decode cX10_hidesAct 1 = .ok (.getfield 22, 3) := by decide +kernel
theorem dX10_hidesAct_4 : decode cX10_hidesAct 4 = .ok (.iload_n 1, 1) := by decide +kernel
theorem dX10_hidesAct_5 : decode cX10_hidesAct 5 = .ok (.iaload, 1) := by decide +kernel
theorem dX10_hidesAct_6 : decode cX10_hidesAct 6 = .ok (.lookupswitch 78 #[(1, 34), (4, 41), (6, 56)], 34) := by decide +kernel
theorem dX10_hidesAct_40 : decode cX10_hidesAct 40 = .ok (.aload_n 0, 1) := by decide +kernel
theorem dX10_hidesAct_41 : decode cX10_hidesAct 41 = .ok (.iload_n 1, 1) := by decide +kernel
theorem dX10_hidesAct_42 : decode cX10_hidesAct 42 = .ok (.iload_n 2, 1) := by decide +kernel
theorem dX10_hidesAct_43 : decode cX10_hidesAct 43 = .ok (.invokevirtual 330, 3) := by decide +kernel
theorem dX10_hidesAct_46 : decode cX10_hidesAct 46 = .ok (.ireturn, 1) := by decide +kernel
theorem dX10_hidesAct_47 : decode cX10_hidesAct 47 = .ok (.aload_n 0, 1) := by decide +kernel
theorem dX10_hidesAct_48 : decode cX10_hidesAct 48 = .ok (.bipush 51, 2) := by decide +kernel
theorem dX10_hidesAct_50 : decode cX10_hidesAct 50 = .ok (.invokevirtual 318, 3) := by decide +kernel
theorem dX10_hidesAct_53 : decode cX10_hidesAct 53 = .ok (.aload_n 0, 1) := by decide +kernel
theorem dX10_hidesAct_54 : decode cX10_hidesAct 54 = .ok (.iload_n 1, 1) := by decide +kernel
theorem dX10_hidesAct_55 : decode cX10_hidesAct 55 = .ok (.iload_n 2, 1) := by decide +kernel
theorem dX10_hidesAct_56 : decode cX10_hidesAct 56 = .ok (.iconst 1, 1) := by decide +kernel
theorem dX10_hidesAct_57 : decode cX10_hidesAct 57 = .ok (.iadd, 1) := by decide +kernel
theorem dX10_hidesAct_58 : decode cX10_hidesAct 58 = .ok (.invokevirtual 330, 3) := by decide +kernel
theorem dX10_hidesAct_61 : decode cX10_hidesAct 61 = .ok (.ireturn, 1) := by decide +kernel
theorem dX10_hidesAct_62 : decode cX10_hidesAct 62 = .ok (.aload_n 0, 1) := by decide +kernel
theorem dX10_hidesAct_63 : decode cX10_hidesAct 63 = .ok (.bipush 70, 2) := by decide +kernel
theorem dX10_hidesAct_65 : decode cX10_hidesAct 65 = .ok (.invokevirtual 318, 3) := by decide +kernel
theorem dX10_hidesAct_68 : decode cX10_hidesAct 68 = .ok (.aload_n 0, 1) := by decide +kernel
theorem dX10_hidesAct_69 : decode cX10_hidesAct 69 = .ok (.iload_n 1, 1) := by decide +kernel
theorem dX10_hidesAct_70 : decode cX10_hidesAct 70 = .ok (.iload_n 2, 1) := by decide +kernel
theorem dX10_hidesAct_71 : decode cX10_hidesAct 71 = .ok (.invokevirtual 327, 3) := by decide +kernel
theorem dX10_hidesAct_74 : decode cX10_hidesAct 74 = .ok (.istore_n 3, 1) := by decide +kernel
theorem dX10_hidesAct_75 : decode cX10_hidesAct 75 = .ok (.iload_n 3, 1) := by decide +kernel
theorem dX10_hidesAct_76 : decode cX10_hidesAct 76 = .ok (.aload_n 0, 1) := by decide +kernel
theorem dX10_hidesAct_77 : decode cX10_hidesAct 77 = .ok (.iload_n 1, 1) := by decide +kernel
theorem dX10_hidesAct_78 : decode cX10_hidesAct 78 = .ok (.iconst 2, 1) := by decide +kernel
theorem dX10_hidesAct_79 : decode cX10_hidesAct 79 = .ok (.invokevirtual 321, 3) := by decide +kernel
theorem dX10_hidesAct_82 : decode cX10_hidesAct 82 = .ok (.iadd, 1) := by decide +kernel
theorem dX10_hidesAct_83 : decode cX10_hidesAct 83 = .ok (.ireturn, 1) := by decide +kernel
theorem dX10_hidesAct_84 : decode cX10_hidesAct 84 = .ok (.aload_n 0, 1) := by decide +kernel
theorem dX10_hidesAct_85 : decode cX10_hidesAct 85 = .ok (.iload_n 1, 1) := by decide +kernel
theorem dX10_hidesAct_86 : decode cX10_hidesAct 86 = .ok (.iload_n 2, 1) := by decide +kernel
theorem dX10_hidesAct_87 : decode cX10_hidesAct 87 = .ok (.invokevirtual 327, 3) := by decide +kernel
theorem dX10_hidesAct_90 : decode cX10_hidesAct 90 = .ok (.ireturn, 1) := by decide +kernel
theorem dX10_manTells_0 : decode cX10_manTells 0 = .ok (.aload_n 0, 1) := by decide +kernel
theorem dX10_manTells_1 : decode cX10_manTells 1 = .ok (.bipush 12, 2) := by decide +kernel
theorem dX10_manTells_3 : decode cX10_manTells 3 = .ok (.invokevirtual 318, 3) := by decide +kernel
theorem dX10_manTells_6 : decode cX10_manTells 6 = .ok (.aload_n 0, 1) := by decide +kernel
theorem dX10_manTells_7 : decode cX10_manTells 7 = .ok (.iload_n 1, 1) := by decide +kernel
theorem dX10_manTells_8 : decode cX10_manTells 8 = .ok (.iload_n 2, 1) := by decide +kernel
theorem dX10_manTells_9 : decode cX10_manTells 9 = .ok (.invokevirtual 333, 3) := by decide +kernel
theorem dX10_manTells_12 : decode cX10_manTells 12 = .ok (.iconst 2, 1) := by decide +kernel
theorem dX10_manTells_13 : decode cX10_manTells 13 = .ok (.imul, 1) := by decide +kernel
theorem dX10_manTells_14 : decode cX10_manTells 14 = .ok (.ireturn, 1) := by decide +kernel
theorem dX10_tellsAct_0 : decode cX10_tellsAct 0 = .ok (.aload_n 0, 1) := by decide +kernel
theorem dX10_tellsAct_1 : decode cX10_tellsAct 1 = .ok (.getfield 22, 3) := by decide +kernel
theorem dX10_tellsAct_4 : decode cX10_tellsAct 4 = .ok (.iload_n 1, 1) := by decide +kernel
theorem dX10_tellsAct_5 : decode cX10_tellsAct 5 = .ok (.iaload, 1) := by decide +kernel
theorem dX10_tellsAct_6 : decode cX10_tellsAct 6 = .ok (.tableswitch 67 3 6 #[30, 67, 52, 30], 30) := by decide +kernel
theorem dX10_tellsAct_36 : decode cX10_tellsAct 36 = .ok (.aload_n 0, 1) := by decide +kernel
theorem dX10_tellsAct_37 : decode cX10_tellsAct 37 = .ok (.bipush 40, 2) := by decide +kernel
theorem dX10_tellsAct_39 : decode cX10_tellsAct 39 = .ok (.invokevirtual 318, 3) := by decide +kernel
theorem dX10_tellsAct_42 : decode cX10_tellsAct 42 = .ok (.aload_n 0, 1) := by decide +kernel
theorem dX10_tellsAct_43 : decode cX10_tellsAct 43 = .ok (.iload_n 1, 1) := by decide +kernel
theorem dX10_tellsAct_44 : decode cX10_tellsAct 44 = .ok (.iload_n 2, 1) := by decide +kernel
theorem dX10_tellsAct_45 : decode cX10_tellsAct 45 = .ok (.invokevirtual 336, 3) := by decide +kernel
theorem dX10_tellsAct_48 : decode cX10_tellsAct 48 = .ok (.istore_n 3, 1) := by decide +kernel
theorem dX10_tellsAct_49 : decode cX10_tellsAct 49 = .ok (.iload_n 3, 1) := by decide +kernel
theorem dX10_tellsAct_50 : decode cX10_tellsAct 50 = .ok (.aload_n 0, 1) := by decide +kernel
theorem dX10_tellsAct_51 : decode cX10_tellsAct 51 = .ok (.iload_n 1, 1) := by decide +kernel
theorem dX10_tellsAct_52 : decode cX10_tellsAct 52 = .ok (.iconst 1, 1) := by decide +kernel
theorem dX10_tellsAct_53 : decode cX10_tellsAct 53 = .ok (.invokevirtual 333, 3) := by decide +kernel
theorem dX10_tellsAct_56 : decode cX10_tellsAct 56 = .ok (.iadd, 1) := by decide +kernel
theorem dX10_tellsAct_57 : decode cX10_tellsAct 57 = .ok (.ireturn, 1) := by decide +kernel
theorem dX10_tellsAct_58 : decode cX10_tellsAct 58 = .ok (.aload_n 0, 1) := by decide +kernel
theorem dX10_tellsAct_59 : decode cX10_tellsAct 59 = .ok (.bipush 60, 2) := by decide +kernel
theorem dX10_tellsAct_61 : decode cX10_tellsAct 61 = .ok (.invokevirtual 318, 3) := by decide +kernel
theorem dX10_tellsAct_64 : decode cX10_tellsAct 64 = .ok (.aload_n 0, 1) := by decide +kernel
theorem dX10_tellsAct_65 : decode cX10_tellsAct 65 = .ok (.iload_n 1, 1) := by decide +kernel
theorem dX10_tellsAct_66 : decode cX10_tellsAct 66 = .ok (.iload_n 2, 1) := by decide +kernel
theorem dX10_tellsAct_67 : decode cX10_tellsAct 67 = .ok (.iload_n 1, 1) := by decide +kernel
theorem dX10_tellsAct_68 : decode cX10_tellsAct 68 = .ok (.isub, 1) := by decide +kernel
theorem dX10_tellsAct_69 : decode cX10_tellsAct 69 = .ok (.invokevirtual 336, 3) := by decide +kernel
theorem dX10_tellsAct_72 : decode cX10_tellsAct 72 = .ok (.ireturn, 1) := by decide +kernel
theorem dX10_tellsAct_73 : decode cX10_tellsAct 73 = .ok (.aload_n 0, 1) := by decide +kernel
theorem dX10_tellsAct_74 : decode cX10_tellsAct 74 = .ok (.iload_n 1, 1) := by decide +kernel
theorem dX10_tellsAct_75 : decode cX10_tellsAct 75 = .ok (.iload_n 2, 1) := by decide +kernel
theorem dX10_tellsAct_76 : decode cX10_tellsAct 76 = .ok (.invokevirtual 336, 3) := by decide +kernel
theorem dX10_tellsAct_79 : decode cX10_tellsAct 79 = .ok (.ireturn, 1) := by decide +kernel
theorem dX10_act_0 : decode cX10_act 0 = .ok (.aload_n 0, 1) := by decide +kernel
theorem dX10_act_1 : decode cX10_act 1 = .ok (.iconst 0, 1) := by decide +kernel
theorem dX10_act_2 : decode cX10_act 2 = .ok (.putfield 160, 3) := by decide +kernel
theorem dX10_act_5 : decode cX10_act 5 = .ok (.aload_n 0, 1) := by decide +kernel
theorem dX10_act_6 : decode cX10_act 6 = .ok (.iload_n 1, 1) := by decide +kernel
theorem dX10_act_7 : decode cX10_act 7 = .ok (.invokevirtual 281, 3) := by decide +kernel
theorem dX10_act_10 : decode cX10_act 10 = .ok (.ifCond .eq 13, 3) := by decide +kernel
theorem dX10_act_13 : decode cX10_act 13 = .ok (.aload_n 0, 1) := by decide +kernel
theorem dX10_act_14 : decode cX10_act 14 = .ok (.iload_n 2, 1) := by decide +kernel
theorem dX10_act_15 : decode cX10_act 15 = .ok (.iconst 0, 1) := by decide +kernel
theorem dX10_act_16 : decode cX10_act 16 = .ok (.iconst 2, 1) := by decide +kernel
theorem dX10_act_17 : decode cX10_act 17 = .ok (.invokevirtual 179, 3) := by decide +kernel
theorem dX10_act_20 : decode cX10_act 20 = .ok (.ifCond .ne 5, 3) := by decide +kernel
theorem dX10_act_23 : decode cX10_act 23 = .ok (.iconst 0, 1) := by decide +kernel
theorem dX10_act_24 : decode cX10_act 24 = .ok (.ireturn, 1) := by decide +kernel
theorem dX10_act_25 : decode cX10_act 25 = .ok (.iload_n 2, 1) := by decide +kernel
theorem dX10_act_26 : decode cX10_act 26 = .ok (.ifCond .ne 12, 3) := by decide +kernel
theorem dX10_act_29 : decode cX10_act 29 = .ok (.aload_n 0, 1) := by decide +kernel
theorem dX10_act_30 : decode cX10_act 30 = .ok (.iload_n 1, 1) := by decide +kernel
theorem dX10_act_31 : decode cX10_act 31 = .ok (.iload_n 3, 1) := by decide +kernel
theorem dX10_act_32 : decode cX10_act 32 = .ok (.invokevirtual 324, 3) := by decide +kernel
theorem dX10_act_35 : decode cX10_act 35 = .ok (.goto 23, 3) := by decide +kernel
theorem dX10_act_38 : decode cX10_act 38 = .ok (.iload_n 2, 1) := by decide +kernel
theorem dX10_act_39 : decode cX10_act 39 = .ok (.iconst 1, 1) := by decide +kernel
theorem dX10_act_40 : decode cX10_act 40 = .ok (.if_icmp .ne 12, 3) := by decide +kernel
theorem dX10_act_43 : decode cX10_act 43 = .ok (.aload_n 0, 1) := by decide +kernel
theorem dX10_act_44 : decode cX10_act 44 = .ok (.iload_n 1, 1) := by decide +kernel
theorem dX10_act_45 : decode cX10_act 45 = .ok (.iload_n 3, 1) := by decide +kernel
theorem dX10_act_46 : decode cX10_act 46 = .ok (.invokevirtual 333, 3) := by decide +kernel
theorem dX10_act_49 : decode cX10_act 49 = .ok (.goto 9, 3) := by decide +kernel
theorem dX10_act_52 : decode cX10_act 52 = .ok (.aload_n 0, 1) := by decide +kernel
theorem dX10_act_53 : decode cX10_act 53 = .ok (.iload_n 1, 1) := by decide +kernel
theorem dX10_act_54 : decode cX10_act 54 = .ok (.iload_n 3, 1) := by decide +kernel
theorem dX10_act_55 : decode cX10_act 55 = .ok (.invokevirtual 339, 3) := by decide +kernel
theorem dX10_act_58 : decode cX10_act 58 = .ok (.ireturn, 1) := by decide +kernel
theorem dX10_trace_0 : decode cX10_trace 0 = .ok (.aload_n 0, 1) := by decide +kernel
theorem dX10_trace_1 : decode cX10_trace 1 = .ok (.iload_n 1, 1) := by decide +kernel
theorem dX10_trace_2 : decode cX10_trace 2 = .ok (.iconst 0, 1) := by decide +kernel
theorem dX10_trace_3 : decode cX10_trace 3 = .ok (.bipush 19, 2) := by decide +kernel
theorem dX10_trace_5 : decode cX10_trace 5 = .ok (.invokevirtual 179, 3) := by decide +kernel
theorem dX10_trace_8 : decode cX10_trace 8 = .ok (.ifCond .eq 20, 3) := by decide +kernel
theorem dX10_trace_11 : decode cX10_trace 11 = .ok (.iload_n 1, 1) := by decide +kernel
theorem dX10_trace_12 : decode cX10_trace 12 = .ok (.aload_n 0, 1) := by decide +kernel
theorem dX10_trace_13 : decode cX10_trace 13 = .ok (.getfield 160, 3) := by decide +kernel
theorem dX10_trace_16 : decode cX10_trace 16 = .ok (.if_icmp .ge 12, 3) := by decide +kernel
theorem dX10_trace_19 : decode cX10_trace 19 = .ok (.aload_n 0, 1) := by decide +kernel
theorem dX10_trace_20 : decode cX10_trace 20 = .ok (.getfield 163, 3) := by decide +kernel
theorem dX10_trace_23 : decode cX10_trace 23 = .ok (.iload_n 1, 1) := by decide +kernel
theorem dX10_trace_24 : decode cX10_trace 24 = .ok (.iaload, 1) := by decide +kernel
theorem dX10_trace_25 : decode cX10_trace 25 = .ok (.goto 4, 3) := by decide +kernel
theorem dX10_trace_28 : decode cX10_trace 28 = .ok (.iconst (-1), 1) := by decide +kernel
theorem dX10_trace_29 : decode cX10_trace 29 = .ok (.ireturn, 1) := by decide +kernel
theorem dX10_taken_0 : decode cX10_taken 0 = .ok (.aload_n 0, 1) := by decide +kernel
theorem dX10_taken_1 : decode cX10_taken 1 = .ok (.iload_n 2, 1) := by decide +kernel
theorem dX10_taken_2 : decode cX10_taken 2 = .ok (.iconst 0, 1) := by decide +kernel
theorem dX10_taken_3 : decode cX10_taken 3 = .ok (.bipush 6, 2) := by decide +kernel
theorem dX10_taken_5 : decode cX10_taken 5 = .ok (.invokevirtual 179, 3) := by decide +kernel
theorem dX10_taken_8 : decode cX10_taken 8 = .ok (.ifCond .ne 6, 3) := by decide +kernel
theorem dX10_taken_11 : decode cX10_taken 11 = .ok (.bipush (-2), 2) := by decide +kernel
theorem dX10_taken_13 : decode cX10_taken 13 = .ok (.ireturn, 1) := by decide +kernel
theorem dX10_taken_14 : decode cX10_taken 14 = .ok (.aload_n 0, 1) := by decide +kernel
theorem dX10_taken_15 : decode cX10_taken 15 = .ok (.iload_n 1, 1) := by decide +kernel
theorem dX10_taken_16 : decode cX10_taken 16 = .ok (.invokevirtual 281, 3) := by decide +kernel
theorem dX10_taken_19 : decode cX10_taken 19 = .ok (.ifCond .ne 6, 3) := by decide +kernel
theorem dX10_taken_22 : decode cX10_taken 22 = .ok (.bipush (-11), 2) := by decide +kernel
theorem dX10_taken_24 : decode cX10_taken 24 = .ok (.ireturn, 1) := by decide +kernel
theorem dX10_taken_25 : decode cX10_taken 25 = .ok (.aload_n 0, 1) := by decide +kernel
theorem dX10_taken_26 : decode cX10_taken 26 = .ok (.getfield 22, 3) := by decide +kernel
theorem dX10_taken_29 : decode cX10_taken 29 = .ok (.iload_n 1, 1) := by decide +kernel
theorem dX10_taken_30 : decode cX10_taken 30 = .ok (.iaload, 1) := by decide +kernel
theorem dX10_taken_31 : decode cX10_taken 31 = .ok (.istore_n 3, 1) := by decide +kernel
theorem dX10_taken_32 : decode cX10_taken 32 = .ok (.iload_n 2, 1) := by decide +kernel
theorem dX10_taken_33 : decode cX10_taken 33 = .ok (.ifCond .eq 39, 3) := by decide +kernel
theorem dX10_taken_36 : decode cX10_taken 36 = .ok (.iload_n 3, 1) := by decide +kernel
theorem dX10_taken_37 : decode cX10_taken 37 = .ok (.iload_n 2, 1) := by decide +kernel
theorem dX10_taken_38 : decode cX10_taken 38 = .ok (.if_icmp .eq 34, 3) := by decide +kernel
theorem dX10_taken_41 : decode cX10_taken 41 = .ok (.iload_n 2, 1) := by decide +kernel
theorem dX10_taken_42 : decode cX10_taken 42 = .ok (.iconst 1, 1) := by decide +kernel
theorem dX10_taken_43 : decode cX10_taken 43 = .ok (.if_icmp .ne 8, 3) := by decide +kernel
theorem dX10_taken_46 : decode cX10_taken 46 = .ok (.iload_n 3, 1) := by decide +kernel
theorem dX10_taken_47 : decode cX10_taken 47 = .ok (.iconst 4, 1) := by decide +kernel
theorem dX10_taken_48 : decode cX10_taken 48 = .ok (.if_icmp .eq 24, 3) := by decide +kernel
theorem dX10_taken_51 : decode cX10_taken 51 = .ok (.iload_n 2, 1) := by decide +kernel
theorem dX10_taken_52 : decode cX10_taken 52 = .ok (.iconst 2, 1) := by decide +kernel
theorem dX10_taken_53 : decode cX10_taken 53 = .ok (.if_icmp .ne 8, 3) := by decide +kernel
theorem dX10_taken_56 : decode cX10_taken 56 = .ok (.iload_n 3, 1) := by decide +kernel
theorem dX10_taken_57 : decode cX10_taken 57 = .ok (.iconst 5, 1) := by decide +kernel
theorem dX10_taken_58 : decode cX10_taken 58 = .ok (.if_icmp .eq 14, 3) := by decide +kernel
theorem dX10_taken_61 : decode cX10_taken 61 = .ok (.iload_n 2, 1) := by decide +kernel
theorem dX10_taken_62 : decode cX10_taken 62 = .ok (.iconst 3, 1) := by decide +kernel
theorem dX10_taken_63 : decode cX10_taken 63 = .ok (.if_icmp .ne 13, 3) := by decide +kernel
theorem dX10_taken_66 : decode cX10_taken 66 = .ok (.iload_n 3, 1) := by decide +kernel
theorem dX10_taken_67 : decode cX10_taken 67 = .ok (.bipush 6, 2) := by decide +kernel
theorem dX10_taken_69 : decode cX10_taken 69 = .ok (.if_icmp .ne 7, 3) := by decide +kernel
theorem dX10_taken_72 : decode cX10_taken 72 = .ok (.iload_n 3, 1) := by decide +kernel
theorem dX10_taken_73 : decode cX10_taken 73 = .ok (.goto 5, 3) := by decide +kernel
theorem dX10_taken_76 : decode cX10_taken 76 = .ok (.bipush (-12), 2) := by decide +kernel
theorem dX10_taken_78 : decode cX10_taken 78 = .ok (.ireturn, 1) := by decide +kernel
theorem dX10_count_0 : decode cX10_count 0 = .ok (.iload_n 1, 1) := by decide +kernel
theorem dX10_count_1 : decode cX10_count 1 = .ok (.tableswitch 69 0 5 #[39, 44, 49, 54, 59, 64], 39) := by decide +kernel
theorem dX10_count_40 : decode cX10_count 40 = .ok (.aload_n 0, 1) := by decide +kernel
theorem dX10_count_41 : decode cX10_count 41 = .ok (.getfield 7, 3) := by decide +kernel
theorem dX10_count_44 : decode cX10_count 44 = .ok (.ireturn, 1) := by decide +kernel
theorem dX10_count_45 : decode cX10_count 45 = .ok (.aload_n 0, 1) := by decide +kernel
theorem dX10_count_46 : decode cX10_count 46 = .ok (.getfield 32, 3) := by decide +kernel
theorem dX10_count_49 : decode cX10_count 49 = .ok (.ireturn, 1) := by decide +kernel
theorem dX10_count_50 : decode cX10_count 50 = .ok (.aload_n 0, 1) := by decide +kernel
theorem dX10_count_51 : decode cX10_count 51 = .ok (.getfield 96, 3) := by decide +kernel
theorem dX10_count_54 : decode cX10_count 54 = .ok (.ireturn, 1) := by decide +kernel
theorem dX10_count_55 : decode cX10_count 55 = .ok (.aload_n 0, 1) := by decide +kernel
theorem dX10_count_56 : decode cX10_count 56 = .ok (.getfield 114, 3) := by decide +kernel
theorem dX10_count_59 : decode cX10_count 59 = .ok (.ireturn, 1) := by decide +kernel
theorem dX10_count_60 : decode cX10_count 60 = .ok (.aload_n 0, 1) := by decide +kernel
theorem dX10_count_61 : decode cX10_count 61 = .ok (.getfield 38, 3) := by decide +kernel
theorem dX10_count_64 : decode cX10_count 64 = .ok (.ireturn, 1) := by decide +kernel
theorem dX10_count_65 : decode cX10_count 65 = .ok (.aload_n 0, 1) := by decide +kernel
theorem dX10_count_66 : decode cX10_count 66 = .ok (.getfield 160, 3) := by decide +kernel
theorem dX10_count_69 : decode cX10_count 69 = .ok (.ireturn, 1) := by decide +kernel
theorem dX10_count_70 : decode cX10_count 70 = .ok (.bipush (-2), 2) := by decide +kernel
theorem dX10_count_72 : decode cX10_count 72 = .ok (.ireturn, 1) := by decide +kernel
theorem dX10_isTape_0 : decode cX10_isTape 0 = .ok (.aload_n 0, 1) := by decide +kernel
theorem dX10_isTape_1 : decode cX10_isTape 1 = .ok (.iload_n 1, 1) := by decide +kernel
theorem dX10_isTape_2 : decode cX10_isTape 2 = .ok (.iconst 0, 1) := by decide +kernel
theorem dX10_isTape_3 : decode cX10_isTape 3 = .ok (.iconst 5, 1) := by decide +kernel
theorem dX10_isTape_4 : decode cX10_isTape 4 = .ok (.invokevirtual 179, 3) := by decide +kernel
theorem dX10_isTape_7 : decode cX10_isTape 7 = .ok (.ireturn, 1) := by decide +kernel
theorem dX10_tape_0 : decode cX10_tape 0 = .ok (.aload_n 0, 1) := by decide +kernel
theorem dX10_tape_1 : decode cX10_tape 1 = .ok (.iload_n 1, 1) := by decide +kernel
theorem dX10_tape_2 : decode cX10_tape 2 = .ok (.invokevirtual 315, 3) := by decide +kernel
theorem dX10_tape_5 : decode cX10_tape 5 = .ok (.ifCond .ne 5, 3) := by decide +kernel
theorem dX10_tape_8 : decode cX10_tape 8 = .ok (.iconst (-1), 1) := by decide +kernel
theorem dX10_tape_9 : decode cX10_tape 9 = .ok (.ireturn, 1) := by decide +kernel
theorem dX10_tape_10 : decode cX10_tape 10 = .ok (.aload_n 0, 1) := by decide +kernel
theorem dX10_tape_11 : decode cX10_tape 11 = .ok (.iload_n 2, 1) := by decide +kernel
theorem dX10_tape_12 : decode cX10_tape 12 = .ok (.iconst (-1), 1) := by decide +kernel
theorem dX10_tape_13 : decode cX10_tape 13 = .ok (.iconst 4, 1) := by decide +kernel
theorem dX10_tape_14 : decode cX10_tape 14 = .ok (.invokevirtual 179, 3) := by decide +kernel
theorem dX10_tape_17 : decode cX10_tape 17 = .ok (.ifCond .eq 13, 3) := by decide +kernel
theorem dX10_tape_20 : decode cX10_tape 20 = .ok (.iload_n 2, 1) := by decide +kernel
theorem dX10_tape_21 : decode cX10_tape 21 = .ok (.ifCond .lt 12, 3) := by decide +kernel
theorem dX10_tape_24 : decode cX10_tape 24 = .ok (.iload_n 3, 1) := by decide +kernel
theorem dX10_tape_25 : decode cX10_tape 25 = .ok (.bipush 60, 2) := by decide +kernel
theorem dX10_tape_27 : decode cX10_tape 27 = .ok (.if_icmp .le 6, 3) := by decide +kernel
theorem dX10_tape_30 : decode cX10_tape 30 = .ok (.bipush (-2), 2) := by decide +kernel
theorem dX10_tape_32 : decode cX10_tape 32 = .ok (.ireturn, 1) := by decide +kernel
theorem dX10_tape_33 : decode cX10_tape 33 = .ok (.iload_n 2, 1) := by decide +kernel
theorem dX10_tape_34 : decode cX10_tape 34 = .ok (.ifCond .lt 10, 3) := by decide +kernel
theorem dX10_tape_37 : decode cX10_tape 37 = .ok (.iload_n 3, 1) := by decide +kernel
theorem dX10_tape_38 : decode cX10_tape 38 = .ok (.ifCond .ge 6, 3) := by decide +kernel
theorem dX10_tape_41 : decode cX10_tape 41 = .ok (.bipush (-14), 2) := by decide +kernel
theorem dX10_tape_43 : decode cX10_tape 43 = .ok (.ireturn, 1) := by decide +kernel
theorem dX10_tape_44 : decode cX10_tape 44 = .ok (.aload_n 0, 1) := by decide +kernel
theorem dX10_tape_45 : decode cX10_tape 45 = .ok (.getfield 166, 3) := by decide +kernel
theorem dX10_tape_48 : decode cX10_tape 48 = .ok (.iload_n 1, 1) := by decide +kernel
theorem dX10_tape_49 : decode cX10_tape 49 = .ok (.iload_n 2, 1) := by decide +kernel
theorem dX10_tape_50 : decode cX10_tape 50 = .ok (.iastore, 1) := by decide +kernel
theorem dX10_tape_51 : decode cX10_tape 51 = .ok (.aload_n 0, 1) := by decide +kernel
theorem dX10_tape_52 : decode cX10_tape 52 = .ok (.getfield 169, 3) := by decide +kernel
theorem dX10_tape_55 : decode cX10_tape 55 = .ok (.iload_n 1, 1) := by decide +kernel
theorem dX10_tape_56 : decode cX10_tape 56 = .ok (.iload_n 2, 1) := by decide +kernel
theorem dX10_tape_57 : decode cX10_tape 57 = .ok (.ifCond .ge 7, 3) := by decide +kernel
theorem dX10_tape_60 : decode cX10_tape 60 = .ok (.iconst 0, 1) := by decide +kernel
theorem dX10_tape_61 : decode cX10_tape 61 = .ok (.goto 4, 3) := by decide +kernel
theorem dX10_tape_64 : decode cX10_tape 64 = .ok (.iload_n 3, 1) := by decide +kernel
theorem dX10_tape_65 : decode cX10_tape 65 = .ok (.iastore, 1) := by decide +kernel
theorem dX10_tape_66 : decode cX10_tape 66 = .ok (.iconst 0, 1) := by decide +kernel
theorem dX10_tape_67 : decode cX10_tape 67 = .ok (.istore 4, 2) := by decide +kernel
theorem dX10_tape_69 : decode cX10_tape 69 = .ok (.iload 4, 2) := by decide +kernel
theorem dX10_tape_71 : decode cX10_tape 71 = .ok (.bipush 60, 2) := by decide +kernel
theorem dX10_tape_73 : decode cX10_tape 73 = .ok (.if_icmp .ge 22, 3) := by decide +kernel
theorem dX10_tape_76 : decode cX10_tape 76 = .ok (.aload_n 0, 1) := by decide +kernel
theorem dX10_tape_77 : decode cX10_tape 77 = .ok (.getfield 172, 3) := by decide +kernel
theorem dX10_tape_80 : decode cX10_tape 80 = .ok (.bipush 60, 2) := by decide +kernel
theorem dX10_tape_82 : decode cX10_tape 82 = .ok (.iload_n 1, 1) := by decide +kernel
theorem dX10_tape_83 : decode cX10_tape 83 = .ok (.imul, 1) := by decide +kernel
theorem dX10_tape_84 : decode cX10_tape 84 = .ok (.iload 4, 2) := by decide +kernel
theorem dX10_tape_86 : decode cX10_tape 86 = .ok (.iadd, 1) := by decide +kernel
theorem dX10_tape_87 : decode cX10_tape 87 = .ok (.lconst 0, 1) := by decide +kernel
theorem dX10_tape_88 : decode cX10_tape 88 = .ok (.lastore, 1) := by decide +kernel
theorem dX10_tape_89 : decode cX10_tape 89 = .ok (.iinc 4 1, 3) := by decide +kernel
theorem dX10_tape_92 : decode cX10_tape 92 = .ok (.goto (-23), 3) := by decide +kernel
theorem dX10_tape_95 : decode cX10_tape 95 = .ok (.iconst 1, 1) := by decide +kernel
theorem dX10_tape_96 : decode cX10_tape 96 = .ok (.ireturn, 1) := by decide +kernel
theorem dX10_narrow_0 : decode cX10_narrow 0 = .ok (.iload_n 1, 1) := by decide +kernel
theorem dX10_narrow_1 : decode cX10_narrow 1 = .ok (.ifCond .ne 10, 3) := by decide +kernel
theorem dX10_narrow_4 : decode cX10_narrow 4 = .ok (.lload_n 2, 1) := by decide +kernel
theorem dX10_narrow_5 : decode cX10_narrow 5 = .ok (.l2i, 1) := by decide +kernel
theorem dX10_narrow_6 : decode cX10_narrow 6 = .ok (.i2b, 1) := by decide +kernel
theorem dX10_narrow_7 : decode cX10_narrow 7 = .ok (.i2l, 1) := by decide +kernel
theorem dX10_narrow_8 : decode cX10_narrow 8 = .ok (.goto 46, 3) := by decide +kernel
theorem dX10_narrow_11 : decode cX10_narrow 11 = .ok (.iload_n 1, 1) := by decide +kernel
theorem dX10_narrow_12 : decode cX10_narrow 12 = .ok (.iconst 1, 1) := by decide +kernel
theorem dX10_narrow_13 : decode cX10_narrow 13 = .ok (.if_icmp .ne 10, 3) := by decide +kernel
theorem dX10_narrow_16 : decode cX10_narrow 16 = .ok (.lload_n 2, 1) := by decide +kernel
theorem dX10_narrow_17 : decode cX10_narrow 17 = .ok (.l2i, 1) := by decide +kernel
theorem dX10_narrow_18 : decode cX10_narrow 18 = .ok (.i2s, 1) := by decide +kernel
theorem dX10_narrow_19 : decode cX10_narrow 19 = .ok (.i2l, 1) := by decide +kernel
theorem dX10_narrow_20 : decode cX10_narrow 20 = .ok (.goto 34, 3) := by decide +kernel
theorem dX10_narrow_23 : decode cX10_narrow 23 = .ok (.iload_n 1, 1) := by decide +kernel
theorem dX10_narrow_24 : decode cX10_narrow 24 = .ok (.iconst 2, 1) := by decide +kernel
theorem dX10_narrow_25 : decode cX10_narrow 25 = .ok (.if_icmp .ne 9, 3) := by decide +kernel
theorem dX10_narrow_28 : decode cX10_narrow 28 = .ok (.lload_n 2, 1) := by decide +kernel
theorem dX10_narrow_29 : decode cX10_narrow 29 = .ok (.l2i, 1) := by decide +kernel
theorem dX10_narrow_30 : decode cX10_narrow 30 = .ok (.i2l, 1) := by decide +kernel
theorem dX10_narrow_31 : decode cX10_narrow 31 = .ok (.goto 23, 3) := by decide +kernel
theorem dX10_narrow_34 : decode cX10_narrow 34 = .ok (.iload_n 1, 1) := by decide +kernel
theorem dX10_narrow_35 : decode cX10_narrow 35 = .ok (.iconst 4, 1) := by decide +kernel
theorem dX10_narrow_36 : decode cX10_narrow 36 = .ok (.if_icmp .ne 17, 3) := by decide +kernel
theorem dX10_narrow_39 : decode cX10_narrow 39 = .ok (.lload_n 2, 1) := by decide +kernel
theorem dX10_narrow_40 : decode cX10_narrow 40 = .ok (.lconst 0, 1) := by decide +kernel
theorem dX10_narrow_41 : decode cX10_narrow 41 = .ok (.lcmp, 1) := by decide +kernel
theorem dX10_narrow_42 : decode cX10_narrow 42 = .ok (.ifCond .eq 7, 3) := by decide +kernel
theorem dX10_narrow_45 : decode cX10_narrow 45 = .ok (.lconst 1, 1) := by decide +kernel
theorem dX10_narrow_46 : decode cX10_narrow 46 = .ok (.goto 8, 3) := by decide +kernel
theorem dX10_narrow_49 : decode cX10_narrow 49 = .ok (.lconst 0, 1) := by decide +kernel
theorem dX10_narrow_50 : decode cX10_narrow 50 = .ok (.goto 4, 3) := by decide +kernel
theorem dX10_narrow_53 : decode cX10_narrow 53 = .ok (.lload_n 2, 1) := by decide +kernel
theorem dX10_narrow_54 : decode cX10_narrow 54 = .ok (.lreturn, 1) := by decide +kernel
theorem dX10_item_0 : decode cX10_item 0 = .ok (.aload_n 0, 1) := by decide +kernel
theorem dX10_item_1 : decode cX10_item 1 = .ok (.iload_n 1, 1) := by decide +kernel
theorem dX10_item_2 : decode cX10_item 2 = .ok (.invokevirtual 315, 3) := by decide +kernel
theorem dX10_item_5 : decode cX10_item 5 = .ok (.ifCond .ne 5, 3) := by decide +kernel
theorem dX10_item_8 : decode cX10_item 8 = .ok (.iconst (-1), 1) := by decide +kernel
theorem dX10_item_9 : decode cX10_item 9 = .ok (.ireturn, 1) := by decide +kernel
theorem dX10_item_10 : decode cX10_item 10 = .ok (.aload_n 0, 1) := by decide +kernel
theorem dX10_item_11 : decode cX10_item 11 = .ok (.getfield 166, 3) := by decide +kernel
theorem dX10_item_14 : decode cX10_item 14 = .ok (.iload_n 1, 1) := by decide +kernel
theorem dX10_item_15 : decode cX10_item 15 = .ok (.iaload, 1) := by decide +kernel
theorem dX10_item_16 : decode cX10_item 16 = .ok (.ifCond .ge 6, 3) := by decide +kernel
theorem dX10_item_19 : decode cX10_item 19 = .ok (.bipush (-11), 2) := by decide +kernel
theorem dX10_item_21 : decode cX10_item 21 = .ok (.ireturn, 1) := by decide +kernel
theorem dX10_item_22 : decode cX10_item 22 = .ok (.aload_n 0, 1) := by decide +kernel
theorem dX10_item_23 : decode cX10_item 23 = .ok (.iload_n 2, 1) := by decide +kernel
theorem dX10_item_24 : decode cX10_item 24 = .ok (.iconst 0, 1) := by decide +kernel
theorem dX10_item_25 : decode cX10_item 25 = .ok (.aload_n 0, 1) := by decide +kernel
theorem dX10_item_26 : decode cX10_item 26 = .ok (.getfield 169, 3) := by decide +kernel
theorem dX10_item_29 : decode cX10_item 29 = .ok (.iload_n 1, 1) := by decide +kernel
theorem dX10_item_30 : decode cX10_item 30 = .ok (.iaload, 1) := by decide +kernel
theorem dX10_item_31 : decode cX10_item 31 = .ok (.iconst 1, 1) := by decide +kernel
theorem dX10_item_32 : decode cX10_item 32 = .ok (.isub, 1) := by decide +kernel
theorem dX10_item_33 : decode cX10_item 33 = .ok (.invokevirtual 179, 3) := by decide +kernel
theorem dX10_item_36 : decode cX10_item 36 = .ok (.ifCond .ne 6, 3) := by decide +kernel
theorem dX10_item_39 : decode cX10_item 39 = .ok (.bipush (-13), 2) := by decide +kernel
theorem dX10_item_41 : decode cX10_item 41 = .ok (.ireturn, 1) := by decide +kernel
theorem dX10_item_42 : decode cX10_item 42 = .ok (.aload_n 0, 1) := by decide +kernel
theorem dX10_item_43 : decode cX10_item 43 = .ok (.getfield 172, 3) := by decide +kernel
theorem dX10_item_46 : decode cX10_item 46 = .ok (.bipush 60, 2) := by decide +kernel
theorem dX10_item_48 : decode cX10_item 48 = .ok (.iload_n 1, 1) := by decide +kernel
theorem dX10_item_49 : decode cX10_item 49 = .ok (.imul, 1) := by decide +kernel
theorem dX10_item_50 : decode cX10_item 50 = .ok (.iload_n 2, 1) := by decide +kernel
theorem dX10_item_51 : decode cX10_item 51 = .ok (.iadd, 1) := by decide +kernel
theorem dX10_item_52 : decode cX10_item 52 = .ok (.aload_n 0, 1) := by decide +kernel
theorem dX10_item_53 : decode cX10_item 53 = .ok (.aload_n 0, 1) := by decide +kernel
theorem dX10_item_54 : decode cX10_item 54 = .ok (.getfield 166, 3) := by decide +kernel
theorem dX10_item_57 : decode cX10_item 57 = .ok (.iload_n 1, 1) := by decide +kernel
theorem dX10_item_58 : decode cX10_item 58 = .ok (.iaload, 1) := by decide +kernel
theorem dX10_item_59 : decode cX10_item 59 = .ok (.lload_n 3, 1) := by decide +kernel
theorem dX10_item_60 : decode cX10_item 60 = .ok (.invokevirtual 342, 3) := by decide +kernel
theorem dX10_item_63 : decode cX10_item 63 = .ok (.lastore, 1) := by decide +kernel
theorem dX10_item_64 : decode cX10_item 64 = .ok (.iconst 1, 1) := by decide +kernel
theorem dX10_item_65 : decode cX10_item 65 = .ok (.ireturn, 1) := by decide +kernel
theorem dX10_read_0 : decode cX10_read 0 = .ok (.aload_n 0, 1) := by decide +kernel
theorem dX10_read_1 : decode cX10_read 1 = .ok (.iload_n 1, 1) := by decide +kernel
theorem dX10_read_2 : decode cX10_read 2 = .ok (.invokevirtual 315, 3) := by decide +kernel
theorem dX10_read_5 : decode cX10_read 5 = .ok (.ifCond .eq 29, 3) := by decide +kernel
theorem dX10_read_8 : decode cX10_read 8 = .ok (.aload_n 0, 1) := by decide +kernel
theorem dX10_read_9 : decode cX10_read 9 = .ok (.getfield 166, 3) := by decide +kernel
theorem dX10_read_12 : decode cX10_read 12 = .ok (.iload_n 1, 1) := by decide +kernel
theorem dX10_read_13 : decode cX10_read 13 = .ok (.iaload, 1) := by decide +kernel
theorem dX10_read_14 : decode cX10_read 14 = .ok (.ifCond .lt 20, 3) := by decide +kernel
theorem dX10_read_17 : decode cX10_read 17 = .ok (.aload_n 0, 1) := by decide +kernel
theorem dX10_read_18 : decode cX10_read 18 = .ok (.iload_n 2, 1) := by decide +kernel
theorem dX10_read_19 : decode cX10_read 19 = .ok (.iconst 0, 1) := by decide +kernel
theorem dX10_read_20 : decode cX10_read 20 = .ok (.aload_n 0, 1) := by decide +kernel
theorem dX10_read_21 : decode cX10_read 21 = .ok (.getfield 169, 3) := by decide +kernel
theorem dX10_read_24 : decode cX10_read 24 = .ok (.iload_n 1, 1) := by decide +kernel
theorem dX10_read_25 : decode cX10_read 25 = .ok (.iaload, 1) := by decide +kernel
theorem dX10_read_26 : decode cX10_read 26 = .ok (.iconst 1, 1) := by decide +kernel
theorem dX10_read_27 : decode cX10_read 27 = .ok (.isub, 1) := by decide +kernel
theorem dX10_read_28 : decode cX10_read 28 = .ok (.invokevirtual 179, 3) := by decide +kernel
theorem dX10_read_31 : decode cX10_read 31 = .ok (.ifCond .ne 9, 3) := by decide +kernel
theorem dX10_read_34 : decode cX10_read 34 = .ok (.ldc2_w 299, 3) := by decide +kernel
theorem dX10_read_37 : decode cX10_read 37 = .ok (.goto 14, 3) := by decide +kernel
theorem dX10_read_40 : decode cX10_read 40 = .ok (.aload_n 0, 1) := by decide +kernel
theorem dX10_read_41 : decode cX10_read 41 = .ok (.getfield 172, 3) := by decide +kernel
theorem dX10_read_44 : decode cX10_read 44 = .ok (.bipush 60, 2) := by decide +kernel
theorem dX10_read_46 : decode cX10_read 46 = .ok (.iload_n 1, 1) := by decide +kernel
theorem dX10_read_47 : decode cX10_read 47 = .ok (.imul, 1) := by decide +kernel
theorem dX10_read_48 : decode cX10_read 48 = .ok (.iload_n 2, 1) := by decide +kernel
theorem dX10_read_49 : decode cX10_read 49 = .ok (.iadd, 1) := by decide +kernel
theorem dX10_read_50 : decode cX10_read 50 = .ok (.laload, 1) := by decide +kernel
theorem dX10_read_51 : decode cX10_read 51 = .ok (.lreturn, 1) := by decide +kernel
theorem dX10_shift_0 : decode cX10_shift 0 = .ok (.aload_n 0, 1) := by decide +kernel
theorem dX10_shift_1 : decode cX10_shift 1 = .ok (.iload_n 1, 1) := by decide +kernel
theorem dX10_shift_2 : decode cX10_shift 2 = .ok (.invokevirtual 315, 3) := by decide +kernel
theorem dX10_shift_5 : decode cX10_shift 5 = .ok (.ifCond .eq 11, 3) := by decide +kernel
theorem dX10_shift_8 : decode cX10_shift 8 = .ok (.aload_n 0, 1) := by decide +kernel
theorem dX10_shift_9 : decode cX10_shift 9 = .ok (.iload_n 3, 1) := by decide +kernel
theorem dX10_shift_10 : decode cX10_shift 10 = .ok (.invokevirtual 315, 3) := by decide +kernel
theorem dX10_shift_13 : decode cX10_shift 13 = .ok (.ifCond .ne 5, 3) := by decide +kernel
theorem dX10_shift_16 : decode cX10_shift 16 = .ok (.iconst (-1), 1) := by decide +kernel
theorem dX10_shift_17 : decode cX10_shift 17 = .ok (.ireturn, 1) := by decide +kernel
theorem dX10_shift_18 : decode cX10_shift 18 = .ok (.aload_n 0, 1) := by decide +kernel
theorem dX10_shift_19 : decode cX10_shift 19 = .ok (.getfield 166, 3) := by decide +kernel
theorem dX10_shift_22 : decode cX10_shift 22 = .ok (.iload_n 1, 1) := by decide +kernel
theorem dX10_shift_23 : decode cX10_shift 23 = .ok (.iaload, 1) := by decide +kernel
theorem dX10_shift_24 : decode cX10_shift 24 = .ok (.ifCond .lt 12, 3) := by decide +kernel
theorem dX10_shift_27 : decode cX10_shift 27 = .ok (.aload_n 0, 1) := by decide +kernel
theorem dX10_shift_28 : decode cX10_shift 28 = .ok (.getfield 166, 3) := by decide +kernel
theorem dX10_shift_31 : decode cX10_shift 31 = .ok (.iload_n 3, 1) := by decide +kernel
theorem dX10_shift_32 : decode cX10_shift 32 = .ok (.iaload, 1) := by decide +kernel
theorem dX10_shift_33 : decode cX10_shift 33 = .ok (.ifCond .ge 6, 3) := by decide +kernel
theorem dX10_shift_36 : decode cX10_shift 36 = .ok (.bipush (-11), 2) := by decide +kernel
theorem dX10_shift_38 : decode cX10_shift 38 = .ok (.ireturn, 1) := by decide +kernel
theorem dX10_shift_39 : decode cX10_shift 39 = .ok (.aload_n 0, 1) := by decide +kernel
theorem dX10_shift_40 : decode cX10_shift 40 = .ok (.getfield 166, 3) := by decide +kernel
theorem dX10_shift_43 : decode cX10_shift 43 = .ok (.iload_n 1, 1) := by decide +kernel
theorem dX10_shift_44 : decode cX10_shift 44 = .ok (.iaload, 1) := by decide +kernel
theorem dX10_shift_45 : decode cX10_shift 45 = .ok (.aload_n 0, 1) := by decide +kernel
theorem dX10_shift_46 : decode cX10_shift 46 = .ok (.getfield 166, 3) := by decide +kernel
theorem dX10_shift_49 : decode cX10_shift 49 = .ok (.iload_n 3, 1) := by decide +kernel
theorem dX10_shift_50 : decode cX10_shift 50 = .ok (.iaload, 1) := by decide +kernel
theorem dX10_shift_51 : decode cX10_shift 51 = .ok (.if_icmp .eq 6, 3) := by decide +kernel
theorem dX10_shift_54 : decode cX10_shift 54 = .ok (.bipush (-12), 2) := by decide +kernel
theorem dX10_shift_56 : decode cX10_shift 56 = .ok (.ireturn, 1) := by decide +kernel
theorem dX10_shift_57 : decode cX10_shift 57 = .ok (.iload 5, 2) := by decide +kernel
theorem dX10_shift_59 : decode cX10_shift 59 = .ok (.ifCond .lt 39, 3) := by decide +kernel
theorem dX10_shift_62 : decode cX10_shift 62 = .ok (.iload_n 2, 1) := by decide +kernel
theorem dX10_shift_63 : decode cX10_shift 63 = .ok (.ifCond .lt 35, 3) := by decide +kernel
theorem dX10_shift_66 : decode cX10_shift 66 = .ok (.iload 4, 2) := by decide +kernel
theorem dX10_shift_68 : decode cX10_shift 68 = .ok (.ifCond .lt 30, 3) := by decide +kernel
theorem dX10_shift_71 : decode cX10_shift 71 = .ok (.iload_n 2, 1) := by decide +kernel
theorem dX10_shift_72 : decode cX10_shift 72 = .ok (.aload_n 0, 1) := by decide +kernel
theorem dX10_shift_73 : decode cX10_shift 73 = .ok (.getfield 169, 3) := by decide +kernel
theorem dX10_shift_76 : decode cX10_shift 76 = .ok (.iload_n 1, 1) := by decide +kernel
theorem dX10_shift_77 : decode cX10_shift 77 = .ok (.iaload, 1) := by decide +kernel
theorem dX10_shift_78 : decode cX10_shift 78 = .ok (.iload 5, 2) := by decide +kernel
theorem dX10_shift_80 : decode cX10_shift 80 = .ok (.isub, 1) := by decide +kernel
theorem dX10_shift_81 : decode cX10_shift 81 = .ok (.if_icmp .gt 17, 3) := by decide +kernel
theorem dX10_shift_84 : decode cX10_shift 84 = .ok (.iload 4, 2) := by decide +kernel
theorem dX10_shift_86 : decode cX10_shift 86 = .ok (.aload_n 0, 1) := by decide +kernel
theorem dX10_shift_87 : decode cX10_shift 87 = .ok (.getfield 169, 3) := by decide +kernel
theorem dX10_shift_90 : decode cX10_shift 90 = .ok (.iload_n 3, 1) := by decide +kernel
theorem dX10_shift_91 : decode cX10_shift 91 = .ok (.iaload, 1) := by decide +kernel
theorem dX10_shift_92 : decode cX10_shift 92 = .ok (.iload 5, 2) := by decide +kernel
theorem dX10_shift_94 : decode cX10_shift 94 = .ok (.isub, 1) := by decide +kernel
theorem dX10_shift_95 : decode cX10_shift 95 = .ok (.if_icmp .le 6, 3) := by decide +kernel
theorem dX10_shift_98 : decode cX10_shift 98 = .ok (.bipush (-13), 2) := by decide +kernel
theorem dX10_shift_100 : decode cX10_shift 100 = .ok (.ireturn, 1) := by decide +kernel
theorem dX10_shift_101 : decode cX10_shift 101 = .ok (.iconst 0, 1) := by decide +kernel
theorem dX10_shift_102 : decode cX10_shift 102 = .ok (.istore 6, 2) := by decide +kernel
theorem dX10_shift_104 : decode cX10_shift 104 = .ok (.iload 6, 2) := by decide +kernel
theorem dX10_shift_106 : decode cX10_shift 106 = .ok (.iload 5, 2) := by decide +kernel
theorem dX10_shift_108 : decode cX10_shift 108 = .ok (.if_icmp .ge 30, 3) := by decide +kernel
theorem dX10_shift_111 : decode cX10_shift 111 = .ok (.aload_n 0, 1) := by decide +kernel
theorem dX10_shift_112 : decode cX10_shift 112 = .ok (.getfield 176, 3) := by decide +kernel
theorem dX10_shift_115 : decode cX10_shift 115 = .ok (.iload 6, 2) := by decide +kernel
theorem dX10_shift_117 : decode cX10_shift 117 = .ok (.aload_n 0, 1) := by decide +kernel
theorem dX10_shift_118 : decode cX10_shift 118 = .ok (.getfield 172, 3) := by decide +kernel
theorem dX10_shift_121 : decode cX10_shift 121 = .ok (.bipush 60, 2) := by decide +kernel
theorem dX10_shift_123 : decode cX10_shift 123 = .ok (.iload_n 1, 1) := by decide +kernel
theorem dX10_shift_124 : decode cX10_shift 124 = .ok (.imul, 1) := by decide +kernel
theorem dX10_shift_125 : decode cX10_shift 125 = .ok (.iload_n 2, 1) := by decide +kernel
theorem dX10_shift_126 : decode cX10_shift 126 = .ok (.iadd, 1) := by decide +kernel
theorem dX10_shift_127 : decode cX10_shift 127 = .ok (.iload 6, 2) := by decide +kernel
theorem dX10_shift_129 : decode cX10_shift 129 = .ok (.iadd, 1) := by decide +kernel
theorem dX10_shift_130 : decode cX10_shift 130 = .ok (.laload, 1) := by decide +kernel
theorem dX10_shift_131 : decode cX10_shift 131 = .ok (.lastore, 1) := by decide +kernel
theorem dX10_shift_132 : decode cX10_shift 132 = .ok (.iinc 6 1, 3) := by decide +kernel
theorem dX10_shift_135 : decode cX10_shift 135 = .ok (.goto (-31), 3) := by decide +kernel
theorem dX10_shift_138 : decode cX10_shift 138 = .ok (.iconst 0, 1) := by decide +kernel
theorem dX10_shift_139 : decode cX10_shift 139 = .ok (.istore 6, 2) := by decide +kernel
theorem dX10_shift_141 : decode cX10_shift 141 = .ok (.iload 6, 2) := by decide +kernel
theorem dX10_shift_143 : decode cX10_shift 143 = .ok (.iload 5, 2) := by decide +kernel
theorem dX10_shift_145 : decode cX10_shift 145 = .ok (.if_icmp .ge 31, 3) := by decide +kernel
theorem dX10_shift_148 : decode cX10_shift 148 = .ok (.aload_n 0, 1) := by decide +kernel
theorem dX10_shift_149 : decode cX10_shift 149 = .ok (.getfield 172, 3) := by decide +kernel
theorem dX10_shift_152 : decode cX10_shift 152 = .ok (.bipush 60, 2) := by decide +kernel
theorem dX10_shift_154 : decode cX10_shift 154 = .ok (.iload_n 3, 1) := by decide +kernel
theorem dX10_shift_155 : decode cX10_shift 155 = .ok (.imul, 1) := by decide +kernel
theorem dX10_shift_156 : decode cX10_shift 156 = .ok (.iload 4, 2) := by decide +kernel
theorem dX10_shift_158 : decode cX10_shift 158 = .ok (.iadd, 1) := by decide +kernel
theorem dX10_shift_159 : decode cX10_shift 159 = .ok (.iload 6, 2) := by decide +kernel
theorem dX10_shift_161 : decode cX10_shift 161 = .ok (.iadd, 1) := by decide +kernel
theorem dX10_shift_162 : decode cX10_shift 162 = .ok (.aload_n 0, 1) := by decide +kernel
theorem dX10_shift_163 : decode cX10_shift 163 = .ok (.getfield 176, 3) := by decide +kernel
theorem dX10_shift_166 : decode cX10_shift 166 = .ok (.iload 6, 2) := by decide +kernel
theorem dX10_shift_168 : decode cX10_shift 168 = .ok (.laload, 1) := by decide +kernel
theorem dX10_shift_169 : decode cX10_shift 169 = .ok (.lastore, 1) := by decide +kernel
theorem dX10_shift_170 : decode cX10_shift 170 = .ok (.iinc 6 1, 3) := by decide +kernel
theorem dX10_shift_173 : decode cX10_shift 173 = .ok (.goto (-32), 3) := by decide +kernel
theorem dX10_shift_176 : decode cX10_shift 176 = .ok (.iload 5, 2) := by decide +kernel
theorem dX10_shift_178 : decode cX10_shift 178 = .ok (.ireturn, 1) := by decide +kernel
theorem dJ9_floorDiv_7cf53_0 : decode cJ9_floorDiv_7cf53 0 = .ok (.iload_n 0, 1) := by decide +kernel
theorem dJ9_floorDiv_7cf53_1 : decode cJ9_floorDiv_7cf53 1 = .ok (.iload_n 1, 1) := by decide +kernel
theorem dJ9_floorDiv_7cf53_2 : decode cJ9_floorDiv_7cf53 2 = .ok (.idiv, 1) := by decide +kernel
theorem dJ9_floorDiv_7cf53_3 : decode cJ9_floorDiv_7cf53 3 = .ok (.istore_n 2, 1) := by decide +kernel
theorem dJ9_floorDiv_7cf53_4 : decode cJ9_floorDiv_7cf53 4 = .ok (.iload_n 0, 1) := by decide +kernel
theorem dJ9_floorDiv_7cf53_5 : decode cJ9_floorDiv_7cf53 5 = .ok (.iload_n 1, 1) := by decide +kernel
theorem dJ9_floorDiv_7cf53_6 : decode cJ9_floorDiv_7cf53 6 = .ok (.ixor, 1) := by decide +kernel
theorem dJ9_floorDiv_7cf53_7 : decode cJ9_floorDiv_7cf53 7 = .ok (.ifCond .ge 14, 3) := by decide +kernel
theorem dJ9_floorDiv_7cf53_10 : decode cJ9_floorDiv_7cf53 10 = .ok (.iload_n 2, 1) := by decide +kernel
theorem dJ9_floorDiv_7cf53_11 : decode cJ9_floorDiv_7cf53 11 = .ok (.iload_n 1, 1) := by decide +kernel
theorem dJ9_floorDiv_7cf53_12 : decode cJ9_floorDiv_7cf53 12 = .ok (.imul, 1) := by decide +kernel
theorem dJ9_floorDiv_7cf53_13 : decode cJ9_floorDiv_7cf53 13 = .ok (.iload_n 0, 1) := by decide +kernel
theorem dJ9_floorDiv_7cf53_14 : decode cJ9_floorDiv_7cf53 14 = .ok (.if_icmp .eq 7, 3) := by decide +kernel
theorem dJ9_floorDiv_7cf53_17 : decode cJ9_floorDiv_7cf53 17 = .ok (.iload_n 2, 1) := by decide +kernel
theorem dJ9_floorDiv_7cf53_18 : decode cJ9_floorDiv_7cf53 18 = .ok (.iconst 1, 1) := by decide +kernel
theorem dJ9_floorDiv_7cf53_19 : decode cJ9_floorDiv_7cf53 19 = .ok (.isub, 1) := by decide +kernel
theorem dJ9_floorDiv_7cf53_20 : decode cJ9_floorDiv_7cf53 20 = .ok (.ireturn, 1) := by decide +kernel
theorem dJ9_floorDiv_7cf53_21 : decode cJ9_floorDiv_7cf53 21 = .ok (.iload_n 2, 1) := by decide +kernel
theorem dJ9_floorDiv_7cf53_22 : decode cJ9_floorDiv_7cf53 22 = .ok (.ireturn, 1) := by decide +kernel
theorem dJ9_floorMod_7cf53_0 : decode cJ9_floorMod_7cf53 0 = .ok (.iload_n 0, 1) := by decide +kernel
theorem dJ9_floorMod_7cf53_1 : decode cJ9_floorMod_7cf53 1 = .ok (.iload_n 1, 1) := by decide +kernel
theorem dJ9_floorMod_7cf53_2 : decode cJ9_floorMod_7cf53 2 = .ok (.irem, 1) := by decide +kernel
theorem dJ9_floorMod_7cf53_3 : decode cJ9_floorMod_7cf53 3 = .ok (.istore_n 2, 1) := by decide +kernel
theorem dJ9_floorMod_7cf53_4 : decode cJ9_floorMod_7cf53 4 = .ok (.iload_n 0, 1) := by decide +kernel
theorem dJ9_floorMod_7cf53_5 : decode cJ9_floorMod_7cf53 5 = .ok (.iload_n 1, 1) := by decide +kernel
theorem dJ9_floorMod_7cf53_6 : decode cJ9_floorMod_7cf53 6 = .ok (.ixor, 1) := by decide +kernel
theorem dJ9_floorMod_7cf53_7 : decode cJ9_floorMod_7cf53 7 = .ok (.ifCond .ge 11, 3) := by decide +kernel
theorem dJ9_floorMod_7cf53_10 : decode cJ9_floorMod_7cf53 10 = .ok (.iload_n 2, 1) := by decide +kernel
theorem dJ9_floorMod_7cf53_11 : decode cJ9_floorMod_7cf53 11 = .ok (.ifCond .eq 7, 3) := by decide +kernel
theorem dJ9_floorMod_7cf53_14 : decode cJ9_floorMod_7cf53 14 = .ok (.iload_n 2, 1) := by decide +kernel
theorem dJ9_floorMod_7cf53_15 : decode cJ9_floorMod_7cf53 15 = .ok (.iload_n 1, 1) := by decide +kernel
theorem dJ9_floorMod_7cf53_16 : decode cJ9_floorMod_7cf53 16 = .ok (.iadd, 1) := by decide +kernel
theorem dJ9_floorMod_7cf53_17 : decode cJ9_floorMod_7cf53 17 = .ok (.ireturn, 1) := by decide +kernel
theorem dJ9_floorMod_7cf53_18 : decode cJ9_floorMod_7cf53 18 = .ok (.iload_n 2, 1) := by decide +kernel
theorem dJ9_floorMod_7cf53_19 : decode cJ9_floorMod_7cf53 19 = .ok (.ireturn, 1) := by decide +kernel
theorem dJ9_abs_067f4_0 : decode cJ9_abs_067f4 0 = .ok (.lload_n 0, 1) := by decide +kernel
theorem dJ9_abs_067f4_1 : decode cJ9_abs_067f4 1 = .ok (.lconst 0, 1) := by decide +kernel
theorem dJ9_abs_067f4_2 : decode cJ9_abs_067f4 2 = .ok (.lcmp, 1) := by decide +kernel
theorem dJ9_abs_067f4_3 : decode cJ9_abs_067f4 3 = .ok (.ifCond .ge 8, 3) := by decide +kernel
theorem dJ9_abs_067f4_6 : decode cJ9_abs_067f4 6 = .ok (.lload_n 0, 1) := by decide +kernel
theorem dJ9_abs_067f4_7 : decode cJ9_abs_067f4 7 = .ok (.lneg, 1) := by decide +kernel
theorem dJ9_abs_067f4_8 : decode cJ9_abs_067f4 8 = .ok (.goto 4, 3) := by decide +kernel
theorem dJ9_abs_067f4_11 : decode cJ9_abs_067f4 11 = .ok (.lload_n 0, 1) := by decide +kernel
theorem dJ9_abs_067f4_12 : decode cJ9_abs_067f4 12 = .ok (.lreturn, 1) := by decide +kernel
theorem dJ9_max_7cf53_0 : decode cJ9_max_7cf53 0 = .ok (.iload_n 0, 1) := by decide +kernel
theorem dJ9_max_7cf53_1 : decode cJ9_max_7cf53 1 = .ok (.iload_n 1, 1) := by decide +kernel
theorem dJ9_max_7cf53_2 : decode cJ9_max_7cf53 2 = .ok (.if_icmp .lt 7, 3) := by decide +kernel
theorem dJ9_max_7cf53_5 : decode cJ9_max_7cf53 5 = .ok (.iload_n 0, 1) := by decide +kernel
theorem dJ9_max_7cf53_6 : decode cJ9_max_7cf53 6 = .ok (.goto 4, 3) := by decide +kernel
theorem dJ9_max_7cf53_9 : decode cJ9_max_7cf53 9 = .ok (.iload_n 1, 1) := by decide +kernel
theorem dJ9_max_7cf53_10 : decode cJ9_max_7cf53 10 = .ok (.ireturn, 1) := by decide +kernel
theorem dJ9_min_7cf53_0 : decode cJ9_min_7cf53 0 = .ok (.iload_n 0, 1) := by decide +kernel
theorem dJ9_min_7cf53_1 : decode cJ9_min_7cf53 1 = .ok (.iload_n 1, 1) := by decide +kernel
theorem dJ9_min_7cf53_2 : decode cJ9_min_7cf53 2 = .ok (.if_icmp .gt 7, 3) := by decide +kernel
theorem dJ9_min_7cf53_5 : decode cJ9_min_7cf53 5 = .ok (.iload_n 0, 1) := by decide +kernel
theorem dJ9_min_7cf53_6 : decode cJ9_min_7cf53 6 = .ok (.goto 4, 3) := by decide +kernel
theorem dJ9_min_7cf53_9 : decode cJ9_min_7cf53 9 = .ok (.iload_n 1, 1) := by decide +kernel
theorem dJ9_min_7cf53_10 : decode cJ9_min_7cf53 10 = .ok (.ireturn, 1) := by decide +kernel
theorem dJ0_length_8abf5_0 : decode cJ0_length_8abf5 0 = .ok (.aload_n 0, 1) := by decide +kernel
theorem dJ0_length_8abf5_1 : decode cJ0_length_8abf5 1 = .ok (.getfield 9, 3) := by decide +kernel
theorem dJ0_length_8abf5_4 : decode cJ0_length_8abf5 4 = .ok (.arraylength, 1) := by decide +kernel
theorem dJ0_length_8abf5_5 : decode cJ0_length_8abf5 5 = .ok (.aload_n 0, 1) := by decide +kernel
theorem dJ0_length_8abf5_6 : decode cJ0_length_8abf5 6 = .ok (.invokevirtual 335, 3) := by decide +kernel
theorem dJ0_length_8abf5_9 : decode cJ0_length_8abf5 9 = .ok (.ishr, 1) := by decide +kernel
theorem dJ0_length_8abf5_10 : decode cJ0_length_8abf5 10 = .ok (.ireturn, 1) := by decide +kernel
theorem dJ0_charAt_5068e_0 : decode cJ0_charAt_5068e 0 = .ok (.aload_n 0, 1) := by decide +kernel
theorem dJ0_charAt_5068e_1 : decode cJ0_charAt_5068e 1 = .ok (.invokevirtual 492, 3) := by decide +kernel
theorem dJ0_charAt_5068e_4 : decode cJ0_charAt_5068e 4 = .ok (.ifCond .eq 12, 3) := by decide +kernel
theorem dJ0_charAt_5068e_7 : decode cJ0_charAt_5068e 7 = .ok (.aload_n 0, 1) := by decide +kernel
theorem dJ0_charAt_5068e_8 : decode cJ0_charAt_5068e 8 = .ok (.getfield 9, 3) := by decide +kernel
theorem dJ0_charAt_5068e_11 : decode cJ0_charAt_5068e 11 = .ok (.iload_n 1, 1) := by decide +kernel
theorem dJ0_charAt_5068e_12 : decode cJ0_charAt_5068e 12 = .ok (.invokestatic 495, 3) := by decide +kernel
theorem dJ0_charAt_5068e_15 : decode cJ0_charAt_5068e 15 = .ok (.ireturn, 1) := by decide +kernel
theorem dJ0_charAt_5068e_16 : decode cJ0_charAt_5068e 16 = .ok (.aload_n 0, 1) := by decide +kernel
theorem dJ0_charAt_5068e_17 : decode cJ0_charAt_5068e 17 = .ok (.getfield 9, 3) := by decide +kernel
theorem dJ0_charAt_5068e_20 : decode cJ0_charAt_5068e 20 = .ok (.iload_n 1, 1) := by decide +kernel
theorem dJ0_charAt_5068e_21 : decode cJ0_charAt_5068e 21 = .ok (.invokestatic 498, 3) := by decide +kernel
theorem dJ0_charAt_5068e_24 : decode cJ0_charAt_5068e 24 = .ok (.ireturn, 1) := by decide +kernel
theorem dJ0_coder_7d493_0 : decode cJ0_coder_7d493 0 = .ok (.getstatic 38, 3) := by decide +kernel
theorem dJ0_coder_7d493_3 : decode cJ0_coder_7d493 3 = .ok (.ifCond .eq 10, 3) := by decide +kernel
theorem dJ0_coder_7d493_6 : decode cJ0_coder_7d493 6 = .ok (.aload_n 0, 1) := by decide +kernel
theorem dJ0_coder_7d493_7 : decode cJ0_coder_7d493 7 = .ok (.getfield 15, 3) := by decide +kernel
theorem dJ0_coder_7d493_10 : decode cJ0_coder_7d493 10 = .ok (.goto 4, 3) := by decide +kernel
theorem dJ0_coder_7d493_13 : decode cJ0_coder_7d493 13 = .ok (.iconst 1, 1) := by decide +kernel
theorem dJ0_coder_7d493_14 : decode cJ0_coder_7d493 14 = .ok (.ireturn, 1) := by decide +kernel
theorem dJ0_isLatin1_aae02_0 : decode cJ0_isLatin1_aae02 0 = .ok (.getstatic 38, 3) := by decide +kernel
theorem dJ0_isLatin1_aae02_3 : decode cJ0_isLatin1_aae02 3 = .ok (.ifCond .eq 14, 3) := by decide +kernel
theorem dJ0_isLatin1_aae02_6 : decode cJ0_isLatin1_aae02 6 = .ok (.aload_n 0, 1) := by decide +kernel
theorem dJ0_isLatin1_aae02_7 : decode cJ0_isLatin1_aae02 7 = .ok (.getfield 15, 3) := by decide +kernel
theorem dJ0_isLatin1_aae02_10 : decode cJ0_isLatin1_aae02 10 = .ok (.ifCond .ne 7, 3) := by decide +kernel
theorem dJ0_isLatin1_aae02_13 : decode cJ0_isLatin1_aae02 13 = .ok (.iconst 1, 1) := by decide +kernel
theorem dJ0_isLatin1_aae02_14 : decode cJ0_isLatin1_aae02 14 = .ok (.goto 4, 3) := by decide +kernel
theorem dJ0_isLatin1_aae02_17 : decode cJ0_isLatin1_aae02 17 = .ok (.iconst 0, 1) := by decide +kernel
theorem dJ0_isLatin1_aae02_18 : decode cJ0_isLatin1_aae02 18 = .ok (.ireturn, 1) := by decide +kernel
theorem dJ0_checkIndex_df160_0 : decode cJ0_checkIndex_df160 0 = .ok (.iload_n 0, 1) := by decide +kernel
theorem dJ0_checkIndex_df160_1 : decode cJ0_checkIndex_df160 1 = .ok (.iload_n 1, 1) := by decide +kernel
theorem dJ0_checkIndex_df160_2 : decode cJ0_checkIndex_df160 2 = .ok (.getstatic 1053, 3) := by decide +kernel
theorem dJ0_checkIndex_df160_5 : decode cJ0_checkIndex_df160 5 = .ok (.invokestatic 1059, 3) := by decide +kernel
theorem dJ0_checkIndex_df160_8 : decode cJ0_checkIndex_df160 8 = .ok (.pop, 1) := by decide +kernel
theorem dJ0_checkIndex_df160_9 : decode cJ0_checkIndex_df160 9 = .ok (.return_, 1) := by decide +kernel
theorem dJ1_charAt_3b067_0 : decode cJ1_charAt_3b067 0 = .ok (.iload_n 1, 1) := by decide +kernel
theorem dJ1_charAt_3b067_1 : decode cJ1_charAt_3b067 1 = .ok (.aload_n 0, 1) := by decide +kernel
theorem dJ1_charAt_3b067_2 : decode cJ1_charAt_3b067 2 = .ok (.arraylength, 1) := by decide +kernel
theorem dJ1_charAt_3b067_3 : decode cJ1_charAt_3b067 3 = .ok (.invokestatic 9, 3) := by decide +kernel
theorem dJ1_charAt_3b067_6 : decode cJ1_charAt_3b067 6 = .ok (.aload_n 0, 1) := by decide +kernel
theorem dJ1_charAt_3b067_7 : decode cJ1_charAt_3b067 7 = .ok (.iload_n 1, 1) := by decide +kernel
theorem dJ1_charAt_3b067_8 : decode cJ1_charAt_3b067 8 = .ok (.baload, 1) := by decide +kernel
theorem dJ1_charAt_3b067_9 : decode cJ1_charAt_3b067 9 = .ok (.sipush 255, 3) := by decide +kernel
theorem dJ1_charAt_3b067_12 : decode cJ1_charAt_3b067 12 = .ok (.iand, 1) := by decide +kernel
theorem dJ1_charAt_3b067_13 : decode cJ1_charAt_3b067 13 = .ok (.i2c, 1) := by decide +kernel
theorem dJ1_charAt_3b067_14 : decode cJ1_charAt_3b067 14 = .ok (.ireturn, 1) := by decide +kernel
theorem dJ2_getChar_3b067_0 : decode cJ2_getChar_3b067 0 = .ok (.getstatic 44, 3) := by decide +kernel
theorem dJ2_getChar_3b067_3 : decode cJ2_getChar_3b067 3 = .ok (.ifCond .ne 25, 3) := by decide +kernel
theorem dJ2_getChar_3b067_6 : decode cJ2_getChar_3b067 6 = .ok (.iload_n 1, 1) := by decide +kernel
theorem dJ2_getChar_3b067_7 : decode cJ2_getChar_3b067 7 = .ok (.ifCond .lt 11, 3) := by decide +kernel
theorem dJ2_getChar_3b067_10 : decode cJ2_getChar_3b067 10 = .ok (.iload_n 1, 1) := by decide +kernel
theorem dJ2_getChar_3b067_11 : decode cJ2_getChar_3b067 11 = .ok (.aload_n 0, 1) := by decide +kernel
theorem dJ2_getChar_3b067_12 : decode cJ2_getChar_3b067 12 = .ok (.invokestatic 48, 3) := by decide +kernel
theorem dJ2_getChar_3b067_15 : decode cJ2_getChar_3b067 15 = .ok (.if_icmp .lt 13, 3) := by decide +kernel
theorem dJ2_getChar_3b067_18 : decode cJ2_getChar_3b067 18 = .ok (.new 52, 3) := by decide +kernel
theorem dJ2_getChar_3b067_21 : decode cJ2_getChar_3b067 21 = .ok (.dup, 1) := by decide +kernel
theorem dJ2_getChar_3b067_22 : decode cJ2_getChar_3b067 22 = .ok (.ldc 54, 2) := by decide +kernel
theorem dJ2_getChar_3b067_24 : decode cJ2_getChar_3b067 24 = .ok (.invokespecial 56, 3) := by decide +kernel
theorem dJ2_getChar_3b067_27 : decode cJ2_getChar_3b067 27 = .ok (.athrow, 1) := by decide +kernel
theorem dJ2_getChar_3b067_28 : decode cJ2_getChar_3b067 28 = .ok (.iload_n 1, 1) := by decide +kernel
theorem dJ2_getChar_3b067_29 : decode cJ2_getChar_3b067 29 = .ok (.iconst 1, 1) := by decide +kernel
theorem dJ2_getChar_3b067_30 : decode cJ2_getChar_3b067 30 = .ok (.ishl, 1) := by decide +kernel
theorem dJ2_getChar_3b067_31 : decode cJ2_getChar_3b067 31 = .ok (.istore_n 1, 1) := by decide +kernel
theorem dJ2_getChar_3b067_32 : decode cJ2_getChar_3b067 32 = .ok (.aload_n 0, 1) := by decide +kernel
theorem dJ2_getChar_3b067_33 : decode cJ2_getChar_3b067 33 = .ok (.iload_n 1, 1) := by decide +kernel
theorem dJ2_getChar_3b067_34 : decode cJ2_getChar_3b067 34 = .ok (.iinc 1 1, 3) := by decide +kernel
theorem dJ2_getChar_3b067_37 : decode cJ2_getChar_3b067 37 = .ok (.baload, 1) := by decide +kernel
theorem dJ2_getChar_3b067_38 : decode cJ2_getChar_3b067 38 = .ok (.sipush 255, 3) := by decide +kernel
theorem dJ2_getChar_3b067_41 : decode cJ2_getChar_3b067 41 = .ok (.iand, 1) := by decide +kernel
theorem dJ2_getChar_3b067_42 : decode cJ2_getChar_3b067 42 = .ok (.getstatic 59, 3) := by decide +kernel
theorem dJ2_getChar_3b067_45 : decode cJ2_getChar_3b067 45 = .ok (.ishl, 1) := by decide +kernel
theorem dJ2_getChar_3b067_46 : decode cJ2_getChar_3b067 46 = .ok (.aload_n 0, 1) := by decide +kernel
theorem dJ2_getChar_3b067_47 : decode cJ2_getChar_3b067 47 = .ok (.iload_n 1, 1) := by decide +kernel
theorem dJ2_getChar_3b067_48 : decode cJ2_getChar_3b067 48 = .ok (.baload, 1) := by decide +kernel
theorem dJ2_getChar_3b067_49 : decode cJ2_getChar_3b067 49 = .ok (.sipush 255, 3) := by decide +kernel
theorem dJ2_getChar_3b067_52 : decode cJ2_getChar_3b067 52 = .ok (.iand, 1) := by decide +kernel
theorem dJ2_getChar_3b067_53 : decode cJ2_getChar_3b067 53 = .ok (.getstatic 63, 3) := by decide +kernel
theorem dJ2_getChar_3b067_56 : decode cJ2_getChar_3b067 56 = .ok (.ishl, 1) := by decide +kernel
theorem dJ2_getChar_3b067_57 : decode cJ2_getChar_3b067 57 = .ok (.ior, 1) := by decide +kernel
theorem dJ2_getChar_3b067_58 : decode cJ2_getChar_3b067 58 = .ok (.i2c, 1) := by decide +kernel
theorem dJ2_getChar_3b067_59 : decode cJ2_getChar_3b067 59 = .ok (.ireturn, 1) := by decide +kernel
theorem dJ2_length_9d52b_0 : decode cJ2_length_9d52b 0 = .ok (.aload_n 0, 1) := by decide +kernel
theorem dJ2_length_9d52b_1 : decode cJ2_length_9d52b 1 = .ok (.arraylength, 1) := by decide +kernel
theorem dJ2_length_9d52b_2 : decode cJ2_length_9d52b 2 = .ok (.iconst 1, 1) := by decide +kernel
theorem dJ2_length_9d52b_3 : decode cJ2_length_9d52b 3 = .ok (.ishr, 1) := by decide +kernel
theorem dJ2_length_9d52b_4 : decode cJ2_length_9d52b 4 = .ok (.ireturn, 1) := by decide +kernel
theorem dJ2_charAt_3b067_0 : decode cJ2_charAt_3b067 0 = .ok (.iload_n 1, 1) := by decide +kernel
theorem dJ2_charAt_3b067_1 : decode cJ2_charAt_3b067 1 = .ok (.aload_n 0, 1) := by decide +kernel
theorem dJ2_charAt_3b067_2 : decode cJ2_charAt_3b067 2 = .ok (.invokestatic 67, 3) := by decide +kernel
theorem dJ2_charAt_3b067_5 : decode cJ2_charAt_3b067 5 = .ok (.aload_n 0, 1) := by decide +kernel
theorem dJ2_charAt_3b067_6 : decode cJ2_charAt_3b067 6 = .ok (.iload_n 1, 1) := by decide +kernel
theorem dJ2_charAt_3b067_7 : decode cJ2_charAt_3b067 7 = .ok (.invokestatic 71, 3) := by decide +kernel
theorem dJ2_charAt_3b067_10 : decode cJ2_charAt_3b067 10 = .ok (.ireturn, 1) := by decide +kernel
theorem dJ2_checkIndex_2214a_0 : decode cJ2_checkIndex_2214a 0 = .ok (.iload_n 0, 1) := by decide +kernel
theorem dJ2_checkIndex_2214a_1 : decode cJ2_checkIndex_2214a 1 = .ok (.aload_n 1, 1) := by decide +kernel
theorem dJ2_checkIndex_2214a_2 : decode cJ2_checkIndex_2214a 2 = .ok (.invokestatic 48, 3) := by decide +kernel
theorem dJ2_checkIndex_2214a_5 : decode cJ2_checkIndex_2214a 5 = .ok (.invokestatic 414, 3) := by decide +kernel
theorem dJ2_checkIndex_2214a_8 : decode cJ2_checkIndex_2214a 8 = .ok (.return_, 1) := by decide +kernel
theorem dJ7_fill_d0a16_0 : decode cJ7_fill_d0a16 0 = .ok (.iconst 0, 1) := by decide +kernel
theorem dJ7_fill_d0a16_1 : decode cJ7_fill_d0a16 1 = .ok (.istore_n 3, 1) := by decide +kernel
theorem dJ7_fill_d0a16_2 : decode cJ7_fill_d0a16 2 = .ok (.aload_n 0, 1) := by decide +kernel
theorem dJ7_fill_d0a16_3 : decode cJ7_fill_d0a16 3 = .ok (.arraylength, 1) := by decide +kernel
theorem dJ7_fill_d0a16_4 : decode cJ7_fill_d0a16 4 = .ok (.istore 4, 2) := by decide +kernel
theorem dJ7_fill_d0a16_6 : decode cJ7_fill_d0a16 6 = .ok (.iload_n 3, 1) := by decide +kernel
theorem dJ7_fill_d0a16_7 : decode cJ7_fill_d0a16 7 = .ok (.iload 4, 2) := by decide +kernel
theorem dJ7_fill_d0a16_9 : decode cJ7_fill_d0a16 9 = .ok (.if_icmp .ge 13, 3) := by decide +kernel
theorem dJ7_fill_d0a16_12 : decode cJ7_fill_d0a16 12 = .ok (.aload_n 0, 1) := by decide +kernel
theorem dJ7_fill_d0a16_13 : decode cJ7_fill_d0a16 13 = .ok (.iload_n 3, 1) := by decide +kernel
theorem dJ7_fill_d0a16_14 : decode cJ7_fill_d0a16 14 = .ok (.lload_n 1, 1) := by decide +kernel
theorem dJ7_fill_d0a16_15 : decode cJ7_fill_d0a16 15 = .ok (.lastore, 1) := by decide +kernel
theorem dJ7_fill_d0a16_16 : decode cJ7_fill_d0a16 16 = .ok (.iinc 3 1, 3) := by decide +kernel
theorem dJ7_fill_d0a16_19 : decode cJ7_fill_d0a16 19 = .ok (.goto (-13), 3) := by decide +kernel
theorem dJ7_fill_d0a16_22 : decode cJ7_fill_d0a16 22 = .ok (.return_, 1) := by decide +kernel
theorem dJ7_fill_53178_0 : decode cJ7_fill_53178 0 = .ok (.iconst 0, 1) := by decide +kernel
theorem dJ7_fill_53178_1 : decode cJ7_fill_53178 1 = .ok (.istore_n 2, 1) := by decide +kernel
theorem dJ7_fill_53178_2 : decode cJ7_fill_53178 2 = .ok (.aload_n 0, 1) := by decide +kernel
theorem dJ7_fill_53178_3 : decode cJ7_fill_53178 3 = .ok (.arraylength, 1) := by decide +kernel
theorem dJ7_fill_53178_4 : decode cJ7_fill_53178 4 = .ok (.istore_n 3, 1) := by decide +kernel
theorem dJ7_fill_53178_5 : decode cJ7_fill_53178 5 = .ok (.iload_n 2, 1) := by decide +kernel
theorem dJ7_fill_53178_6 : decode cJ7_fill_53178 6 = .ok (.iload_n 3, 1) := by decide +kernel
theorem dJ7_fill_53178_7 : decode cJ7_fill_53178 7 = .ok (.if_icmp .ge 13, 3) := by decide +kernel
theorem dJ7_fill_53178_10 : decode cJ7_fill_53178 10 = .ok (.aload_n 0, 1) := by decide +kernel
theorem dJ7_fill_53178_11 : decode cJ7_fill_53178 11 = .ok (.iload_n 2, 1) := by decide +kernel
theorem dJ7_fill_53178_12 : decode cJ7_fill_53178 12 = .ok (.iload_n 1, 1) := by decide +kernel
theorem dJ7_fill_53178_13 : decode cJ7_fill_53178 13 = .ok (.iastore, 1) := by decide +kernel
theorem dJ7_fill_53178_14 : decode cJ7_fill_53178 14 = .ok (.iinc 2 1, 3) := by decide +kernel
theorem dJ7_fill_53178_17 : decode cJ7_fill_53178 17 = .ok (.goto (-12), 3) := by decide +kernel
theorem dJ7_fill_53178_20 : decode cJ7_fill_53178 20 = .ok (.return_, 1) := by decide +kernel
theorem dJ3_checkIndex_8e157_0 : decode cJ3_checkIndex_8e157 0 = .ok (.iload_n 0, 1) := by decide +kernel
theorem dJ3_checkIndex_8e157_1 : decode cJ3_checkIndex_8e157 1 = .ok (.ifCond .lt 8, 3) := by decide +kernel
theorem dJ3_checkIndex_8e157_4 : decode cJ3_checkIndex_8e157 4 = .ok (.iload_n 0, 1) := by decide +kernel
theorem dJ3_checkIndex_8e157_5 : decode cJ3_checkIndex_8e157 5 = .ok (.iload_n 1, 1) := by decide +kernel
theorem dJ3_checkIndex_8e157_6 : decode cJ3_checkIndex_8e157 6 = .ok (.if_icmp .lt 10, 3) := by decide +kernel
theorem dJ3_checkIndex_8e157_9 : decode cJ3_checkIndex_8e157 9 = .ok (.aload_n 2, 1) := by decide +kernel
theorem dJ3_checkIndex_8e157_10 : decode cJ3_checkIndex_8e157 10 = .ok (.iload_n 0, 1) := by decide +kernel
theorem dJ3_checkIndex_8e157_11 : decode cJ3_checkIndex_8e157 11 = .ok (.iload_n 1, 1) := by decide +kernel
theorem dJ3_checkIndex_8e157_12 : decode cJ3_checkIndex_8e157 12 = .ok (.invokestatic 95, 3) := by decide +kernel
theorem dJ3_checkIndex_8e157_15 : decode cJ3_checkIndex_8e157 15 = .ok (.athrow, 1) := by decide +kernel
theorem dJ3_checkIndex_8e157_16 : decode cJ3_checkIndex_8e157 16 = .ok (.iload_n 0, 1) := by decide +kernel
theorem dJ3_checkIndex_8e157_17 : decode cJ3_checkIndex_8e157 17 = .ok (.ireturn, 1) := by decide +kernel
theorem dL_law_0 : decode cL_law 0 = .ok (.new 7, 3) := by decide +kernel
theorem dL_law_3 : decode cL_law 3 = .ok (.dup, 1) := by decide +kernel
theorem dL_law_4 : decode cL_law 4 = .ok (.invokespecial 9, 3) := by decide +kernel
theorem dL_law_7 : decode cL_law 7 = .ok (.astore_n 1, 1) := by decide +kernel
theorem dL_law_8 : decode cL_law 8 = .ok (.new 10, 3) := by decide +kernel
theorem dL_law_11 : decode cL_law 11 = .ok (.dup, 1) := by decide +kernel
theorem dL_law_12 : decode cL_law 12 = .ok (.invokespecial 12, 3) := by decide +kernel
theorem dL_law_15 : decode cL_law 15 = .ok (.astore_n 2, 1) := by decide +kernel
theorem dL_law_16 : decode cL_law 16 = .ok (.iconst 0, 1) := by decide +kernel
theorem dL_law_17 : decode cL_law 17 = .ok (.istore_n 3, 1) := by decide +kernel
theorem dL_law_18 : decode cL_law 18 = .ok (.iload_n 3, 1) := by decide +kernel
theorem dL_law_19 : decode cL_law 19 = .ok (.aload_n 0, 1) := by decide +kernel
theorem dL_law_20 : decode cL_law 20 = .ok (.arraylength, 1) := by decide +kernel
theorem dL_law_21 : decode cL_law 21 = .ok (.bipush 6, 2) := by decide +kernel
theorem dL_law_23 : decode cL_law 23 = .ok (.isub, 1) := by decide +kernel
theorem dL_law_24 : decode cL_law 24 = .ok (.if_icmp .gt 1100, 3) := by decide +kernel
theorem dL_law_27 : decode cL_law 27 = .ok (.aload_n 0, 1) := by decide +kernel
theorem dL_law_28 : decode cL_law 28 = .ok (.iload_n 3, 1) := by decide +kernel
theorem dL_law_29 : decode cL_law 29 = .ok (.iaload, 1) := by decide +kernel
theorem dL_law_30 : decode cL_law 30 = .ok (.bipush 31, 2) := by decide +kernel
theorem dL_law_32 : decode cL_law 32 = .ok (.iand, 1) := by decide +kernel
theorem dL_law_33 : decode cL_law 33 = .ok (.tableswitch 1085 0 30 #[139, 172, 205, 228, 251, 264, 287, 310, 333, 356, 379, 402, 425, 458, 481, 524, 568, 602, 655, 678, 691, 724, 737, 750, 793, 816, 849, 872, 915, 988, 1022], 139) := by decide +kernel
theorem dL_law_172 : decode cL_law 172 = .ok (.aload_n 1, 1) := by decide +kernel
theorem dL_law_173 : decode cL_law 173 = .ok (.aload_n 0, 1) := by decide +kernel
theorem dL_law_174 : decode cL_law 174 = .ok (.iload_n 3, 1) := by decide +kernel
theorem dL_law_175 : decode cL_law 175 = .ok (.iconst 1, 1) := by decide +kernel
theorem dL_law_176 : decode cL_law 176 = .ok (.iadd, 1) := by decide +kernel
theorem dL_law_177 : decode cL_law 177 = .ok (.iaload, 1) := by decide +kernel
theorem dL_law_178 : decode cL_law 178 = .ok (.aload_n 0, 1) := by decide +kernel
theorem dL_law_179 : decode cL_law 179 = .ok (.iload_n 3, 1) := by decide +kernel
theorem dL_law_180 : decode cL_law 180 = .ok (.iconst 2, 1) := by decide +kernel
theorem dL_law_181 : decode cL_law 181 = .ok (.iadd, 1) := by decide +kernel
theorem dL_law_182 : decode cL_law 182 = .ok (.iaload, 1) := by decide +kernel
theorem dL_law_183 : decode cL_law 183 = .ok (.invokevirtual 13, 3) := by decide +kernel
theorem dL_law_186 : decode cL_law 186 = .ok (.aload_n 2, 1) := by decide +kernel
theorem dL_law_187 : decode cL_law 187 = .ok (.aload_n 0, 1) := by decide +kernel
theorem dL_law_188 : decode cL_law 188 = .ok (.iload_n 3, 1) := by decide +kernel
theorem dL_law_189 : decode cL_law 189 = .ok (.iconst 1, 1) := by decide +kernel
theorem dL_law_190 : decode cL_law 190 = .ok (.iadd, 1) := by decide +kernel
theorem dL_law_191 : decode cL_law 191 = .ok (.iaload, 1) := by decide +kernel
theorem dL_law_192 : decode cL_law 192 = .ok (.aload_n 0, 1) := by decide +kernel
theorem dL_law_193 : decode cL_law 193 = .ok (.iload_n 3, 1) := by decide +kernel
theorem dL_law_194 : decode cL_law 194 = .ok (.iconst 2, 1) := by decide +kernel
theorem dL_law_195 : decode cL_law 195 = .ok (.iadd, 1) := by decide +kernel
theorem dL_law_196 : decode cL_law 196 = .ok (.iaload, 1) := by decide +kernel
theorem dL_law_197 : decode cL_law 197 = .ok (.invokevirtual 17, 3) := by decide +kernel
theorem dL_law_200 : decode cL_law 200 = .ok (.if_icmp .eq 918, 3) := by decide +kernel
theorem dL_law_203 : decode cL_law 203 = .ok (.iconst 0, 1) := by decide +kernel
theorem dL_law_204 : decode cL_law 204 = .ok (.ireturn, 1) := by decide +kernel
theorem dL_law_205 : decode cL_law 205 = .ok (.aload_n 1, 1) := by decide +kernel
theorem dL_law_206 : decode cL_law 206 = .ok (.aload_n 0, 1) := by decide +kernel
theorem dL_law_207 : decode cL_law 207 = .ok (.iload_n 3, 1) := by decide +kernel
theorem dL_law_208 : decode cL_law 208 = .ok (.iconst 1, 1) := by decide +kernel
theorem dL_law_209 : decode cL_law 209 = .ok (.iadd, 1) := by decide +kernel
theorem dL_law_210 : decode cL_law 210 = .ok (.iaload, 1) := by decide +kernel
theorem dL_law_211 : decode cL_law 211 = .ok (.aload_n 0, 1) := by decide +kernel
theorem dL_law_212 : decode cL_law 212 = .ok (.iload_n 3, 1) := by decide +kernel
theorem dL_law_213 : decode cL_law 213 = .ok (.iconst 2, 1) := by decide +kernel
theorem dL_law_214 : decode cL_law 214 = .ok (.iadd, 1) := by decide +kernel
theorem dL_law_215 : decode cL_law 215 = .ok (.iaload, 1) := by decide +kernel
theorem dL_law_216 : decode cL_law 216 = .ok (.invokevirtual 18, 3) := by decide +kernel
theorem dL_law_219 : decode cL_law 219 = .ok (.aload_n 2, 1) := by decide +kernel
theorem dL_law_220 : decode cL_law 220 = .ok (.aload_n 0, 1) := by decide +kernel
theorem dL_law_221 : decode cL_law 221 = .ok (.iload_n 3, 1) := by decide +kernel
theorem dL_law_222 : decode cL_law 222 = .ok (.iconst 1, 1) := by decide +kernel
theorem dL_law_223 : decode cL_law 223 = .ok (.iadd, 1) := by decide +kernel
theorem dL_law_224 : decode cL_law 224 = .ok (.iaload, 1) := by decide +kernel
theorem dL_law_225 : decode cL_law 225 = .ok (.aload_n 0, 1) := by decide +kernel
theorem dL_law_226 : decode cL_law 226 = .ok (.iload_n 3, 1) := by decide +kernel
theorem dL_law_227 : decode cL_law 227 = .ok (.iconst 2, 1) := by decide +kernel
theorem dL_law_228 : decode cL_law 228 = .ok (.iadd, 1) := by decide +kernel
theorem dL_law_229 : decode cL_law 229 = .ok (.iaload, 1) := by decide +kernel
theorem dL_law_230 : decode cL_law 230 = .ok (.invokevirtual 21, 3) := by decide +kernel
theorem dL_law_233 : decode cL_law 233 = .ok (.if_icmp .eq 885, 3) := by decide +kernel
theorem dL_law_236 : decode cL_law 236 = .ok (.iconst 0, 1) := by decide +kernel
theorem dL_law_237 : decode cL_law 237 = .ok (.ireturn, 1) := by decide +kernel
theorem dL_law_238 : decode cL_law 238 = .ok (.aload_n 1, 1) := by decide +kernel
theorem dL_law_239 : decode cL_law 239 = .ok (.aload_n 0, 1) := by decide +kernel
theorem dL_law_240 : decode cL_law 240 = .ok (.iload_n 3, 1) := by decide +kernel
theorem dL_law_241 : decode cL_law 241 = .ok (.iconst 1, 1) := by decide +kernel
theorem dL_law_242 : decode cL_law 242 = .ok (.iadd, 1) := by decide +kernel
theorem dL_law_243 : decode cL_law 243 = .ok (.iaload, 1) := by decide +kernel
theorem dL_law_244 : decode cL_law 244 = .ok (.invokevirtual 22, 3) := by decide +kernel
theorem dL_law_247 : decode cL_law 247 = .ok (.aload_n 2, 1) := by decide +kernel
theorem dL_law_248 : decode cL_law 248 = .ok (.aload_n 0, 1) := by decide +kernel
theorem dL_law_249 : decode cL_law 249 = .ok (.iload_n 3, 1) := by decide +kernel
theorem dL_law_250 : decode cL_law 250 = .ok (.iconst 1, 1) := by decide +kernel
theorem dL_law_251 : decode cL_law 251 = .ok (.iadd, 1) := by decide +kernel
theorem dL_law_252 : decode cL_law 252 = .ok (.iaload, 1) := by decide +kernel
theorem dL_law_253 : decode cL_law 253 = .ok (.invokevirtual 26, 3) := by decide +kernel
theorem dL_law_256 : decode cL_law 256 = .ok (.if_icmp .eq 862, 3) := by decide +kernel
theorem dL_law_259 : decode cL_law 259 = .ok (.iconst 0, 1) := by decide +kernel
theorem dL_law_260 : decode cL_law 260 = .ok (.ireturn, 1) := by decide +kernel
theorem dL_law_261 : decode cL_law 261 = .ok (.aload_n 1, 1) := by decide +kernel
theorem dL_law_262 : decode cL_law 262 = .ok (.aload_n 0, 1) := by decide +kernel
theorem dL_law_263 : decode cL_law 263 = .ok (.iload_n 3, 1) := by decide +kernel
theorem dL_law_264 : decode cL_law 264 = .ok (.iconst 1, 1) := by decide +kernel
theorem dL_law_265 : decode cL_law 265 = .ok (.iadd, 1) := by decide +kernel
theorem dL_law_266 : decode cL_law 266 = .ok (.iaload, 1) := by decide +kernel
theorem dL_law_267 : decode cL_law 267 = .ok (.invokevirtual 27, 3) := by decide +kernel
theorem dL_law_270 : decode cL_law 270 = .ok (.aload_n 2, 1) := by decide +kernel
theorem dL_law_271 : decode cL_law 271 = .ok (.aload_n 0, 1) := by decide +kernel
theorem dL_law_272 : decode cL_law 272 = .ok (.iload_n 3, 1) := by decide +kernel
theorem dL_law_273 : decode cL_law 273 = .ok (.iconst 1, 1) := by decide +kernel
theorem dL_law_274 : decode cL_law 274 = .ok (.iadd, 1) := by decide +kernel
theorem dL_law_275 : decode cL_law 275 = .ok (.iaload, 1) := by decide +kernel
theorem dL_law_276 : decode cL_law 276 = .ok (.invokevirtual 30, 3) := by decide +kernel
theorem dL_law_279 : decode cL_law 279 = .ok (.if_icmp .eq 839, 3) := by decide +kernel
theorem dL_law_282 : decode cL_law 282 = .ok (.iconst 0, 1) := by decide +kernel
theorem dL_law_283 : decode cL_law 283 = .ok (.ireturn, 1) := by decide +kernel
theorem dL_law_284 : decode cL_law 284 = .ok (.aload_n 1, 1) := by decide +kernel
theorem dL_law_285 : decode cL_law 285 = .ok (.invokevirtual 31, 3) := by decide +kernel
theorem dL_law_288 : decode cL_law 288 = .ok (.aload_n 2, 1) := by decide +kernel
theorem dL_law_289 : decode cL_law 289 = .ok (.invokevirtual 35, 3) := by decide +kernel
theorem dL_law_292 : decode cL_law 292 = .ok (.if_icmp .eq 826, 3) := by decide +kernel
theorem dL_law_295 : decode cL_law 295 = .ok (.iconst 0, 1) := by decide +kernel
theorem dL_law_296 : decode cL_law 296 = .ok (.ireturn, 1) := by decide +kernel
theorem dL_law_297 : decode cL_law 297 = .ok (.aload_n 1, 1) := by decide +kernel
theorem dL_law_298 : decode cL_law 298 = .ok (.aload_n 0, 1) := by decide +kernel
theorem dL_law_299 : decode cL_law 299 = .ok (.iload_n 3, 1) := by decide +kernel
theorem dL_law_300 : decode cL_law 300 = .ok (.iconst 1, 1) := by decide +kernel
theorem dL_law_301 : decode cL_law 301 = .ok (.iadd, 1) := by decide +kernel
theorem dL_law_302 : decode cL_law 302 = .ok (.iaload, 1) := by decide +kernel
theorem dL_law_303 : decode cL_law 303 = .ok (.invokevirtual 36, 3) := by decide +kernel
theorem dL_law_306 : decode cL_law 306 = .ok (.aload_n 2, 1) := by decide +kernel
theorem dL_law_307 : decode cL_law 307 = .ok (.aload_n 0, 1) := by decide +kernel
theorem dL_law_308 : decode cL_law 308 = .ok (.iload_n 3, 1) := by decide +kernel
theorem dL_law_309 : decode cL_law 309 = .ok (.iconst 1, 1) := by decide +kernel
theorem dL_law_310 : decode cL_law 310 = .ok (.iadd, 1) := by decide +kernel
theorem dL_law_311 : decode cL_law 311 = .ok (.iaload, 1) := by decide +kernel
theorem dL_law_312 : decode cL_law 312 = .ok (.invokevirtual 39, 3) := by decide +kernel
theorem dL_law_315 : decode cL_law 315 = .ok (.if_icmp .eq 803, 3) := by decide +kernel
theorem dL_law_318 : decode cL_law 318 = .ok (.iconst 0, 1) := by decide +kernel
theorem dL_law_319 : decode cL_law 319 = .ok (.ireturn, 1) := by decide +kernel
theorem dL_law_320 : decode cL_law 320 = .ok (.aload_n 1, 1) := by decide +kernel
theorem dL_law_321 : decode cL_law 321 = .ok (.aload_n 0, 1) := by decide +kernel
theorem dL_law_322 : decode cL_law 322 = .ok (.iload_n 3, 1) := by decide +kernel
theorem dL_law_323 : decode cL_law 323 = .ok (.iconst 1, 1) := by decide +kernel
theorem dL_law_324 : decode cL_law 324 = .ok (.iadd, 1) := by decide +kernel
theorem dL_law_325 : decode cL_law 325 = .ok (.iaload, 1) := by decide +kernel
theorem dL_law_326 : decode cL_law 326 = .ok (.invokevirtual 40, 3) := by decide +kernel
theorem dL_law_329 : decode cL_law 329 = .ok (.aload_n 2, 1) := by decide +kernel
theorem dL_law_330 : decode cL_law 330 = .ok (.aload_n 0, 1) := by decide +kernel
theorem dL_law_331 : decode cL_law 331 = .ok (.iload_n 3, 1) := by decide +kernel
theorem dL_law_332 : decode cL_law 332 = .ok (.iconst 1, 1) := by decide +kernel
theorem dL_law_333 : decode cL_law 333 = .ok (.iadd, 1) := by decide +kernel
theorem dL_law_334 : decode cL_law 334 = .ok (.iaload, 1) := by decide +kernel
theorem dL_law_335 : decode cL_law 335 = .ok (.invokevirtual 43, 3) := by decide +kernel
theorem dL_law_338 : decode cL_law 338 = .ok (.if_icmp .eq 780, 3) := by decide +kernel
theorem dL_law_341 : decode cL_law 341 = .ok (.iconst 0, 1) := by decide +kernel
theorem dL_law_342 : decode cL_law 342 = .ok (.ireturn, 1) := by decide +kernel
theorem dL_law_343 : decode cL_law 343 = .ok (.aload_n 1, 1) := by decide +kernel
theorem dL_law_344 : decode cL_law 344 = .ok (.aload_n 0, 1) := by decide +kernel
theorem dL_law_345 : decode cL_law 345 = .ok (.iload_n 3, 1) := by decide +kernel
theorem dL_law_346 : decode cL_law 346 = .ok (.iconst 1, 1) := by decide +kernel
theorem dL_law_347 : decode cL_law 347 = .ok (.iadd, 1) := by decide +kernel
theorem dL_law_348 : decode cL_law 348 = .ok (.iaload, 1) := by decide +kernel
theorem dL_law_349 : decode cL_law 349 = .ok (.invokevirtual 44, 3) := by decide +kernel
theorem dL_law_352 : decode cL_law 352 = .ok (.aload_n 2, 1) := by decide +kernel
theorem dL_law_353 : decode cL_law 353 = .ok (.aload_n 0, 1) := by decide +kernel
theorem dL_law_354 : decode cL_law 354 = .ok (.iload_n 3, 1) := by decide +kernel
theorem dL_law_355 : decode cL_law 355 = .ok (.iconst 1, 1) := by decide +kernel
theorem dL_law_356 : decode cL_law 356 = .ok (.iadd, 1) := by decide +kernel
theorem dL_law_357 : decode cL_law 357 = .ok (.iaload, 1) := by decide +kernel
theorem dL_law_358 : decode cL_law 358 = .ok (.invokevirtual 47, 3) := by decide +kernel
theorem dL_law_361 : decode cL_law 361 = .ok (.if_icmp .eq 757, 3) := by decide +kernel
theorem dL_law_364 : decode cL_law 364 = .ok (.iconst 0, 1) := by decide +kernel
theorem dL_law_365 : decode cL_law 365 = .ok (.ireturn, 1) := by decide +kernel
theorem dL_law_366 : decode cL_law 366 = .ok (.aload_n 1, 1) := by decide +kernel
theorem dL_law_367 : decode cL_law 367 = .ok (.aload_n 0, 1) := by decide +kernel
theorem dL_law_368 : decode cL_law 368 = .ok (.iload_n 3, 1) := by decide +kernel
theorem dL_law_369 : decode cL_law 369 = .ok (.iconst 1, 1) := by decide +kernel
theorem dL_law_370 : decode cL_law 370 = .ok (.iadd, 1) := by decide +kernel
theorem dL_law_371 : decode cL_law 371 = .ok (.iaload, 1) := by decide +kernel
theorem dL_law_372 : decode cL_law 372 = .ok (.invokevirtual 48, 3) := by decide +kernel
theorem dL_law_375 : decode cL_law 375 = .ok (.aload_n 2, 1) := by decide +kernel
theorem dL_law_376 : decode cL_law 376 = .ok (.aload_n 0, 1) := by decide +kernel
theorem dL_law_377 : decode cL_law 377 = .ok (.iload_n 3, 1) := by decide +kernel
theorem dL_law_378 : decode cL_law 378 = .ok (.iconst 1, 1) := by decide +kernel
theorem dL_law_379 : decode cL_law 379 = .ok (.iadd, 1) := by decide +kernel
theorem dL_law_380 : decode cL_law 380 = .ok (.iaload, 1) := by decide +kernel
theorem dL_law_381 : decode cL_law 381 = .ok (.invokevirtual 51, 3) := by decide +kernel
theorem dL_law_384 : decode cL_law 384 = .ok (.if_icmp .eq 734, 3) := by decide +kernel
theorem dL_law_387 : decode cL_law 387 = .ok (.iconst 0, 1) := by decide +kernel
theorem dL_law_388 : decode cL_law 388 = .ok (.ireturn, 1) := by decide +kernel
theorem dL_law_389 : decode cL_law 389 = .ok (.aload_n 1, 1) := by decide +kernel
theorem dL_law_390 : decode cL_law 390 = .ok (.aload_n 0, 1) := by decide +kernel
theorem dL_law_391 : decode cL_law 391 = .ok (.iload_n 3, 1) := by decide +kernel
theorem dL_law_392 : decode cL_law 392 = .ok (.iconst 1, 1) := by decide +kernel
theorem dL_law_393 : decode cL_law 393 = .ok (.iadd, 1) := by decide +kernel
theorem dL_law_394 : decode cL_law 394 = .ok (.iaload, 1) := by decide +kernel
theorem dL_law_395 : decode cL_law 395 = .ok (.invokevirtual 52, 3) := by decide +kernel
theorem dL_law_398 : decode cL_law 398 = .ok (.aload_n 2, 1) := by decide +kernel
theorem dL_law_399 : decode cL_law 399 = .ok (.aload_n 0, 1) := by decide +kernel
theorem dL_law_400 : decode cL_law 400 = .ok (.iload_n 3, 1) := by decide +kernel
theorem dL_law_401 : decode cL_law 401 = .ok (.iconst 1, 1) := by decide +kernel
theorem dL_law_402 : decode cL_law 402 = .ok (.iadd, 1) := by decide +kernel
theorem dL_law_403 : decode cL_law 403 = .ok (.iaload, 1) := by decide +kernel
theorem dL_law_404 : decode cL_law 404 = .ok (.invokevirtual 55, 3) := by decide +kernel
theorem dL_law_407 : decode cL_law 407 = .ok (.if_icmp .eq 711, 3) := by decide +kernel
theorem dL_law_410 : decode cL_law 410 = .ok (.iconst 0, 1) := by decide +kernel
theorem dL_law_411 : decode cL_law 411 = .ok (.ireturn, 1) := by decide +kernel
theorem dL_law_412 : decode cL_law 412 = .ok (.aload_n 1, 1) := by decide +kernel
theorem dL_law_413 : decode cL_law 413 = .ok (.aload_n 0, 1) := by decide +kernel
theorem dL_law_414 : decode cL_law 414 = .ok (.iload_n 3, 1) := by decide +kernel
theorem dL_law_415 : decode cL_law 415 = .ok (.iconst 1, 1) := by decide +kernel
theorem dL_law_416 : decode cL_law 416 = .ok (.iadd, 1) := by decide +kernel
theorem dL_law_417 : decode cL_law 417 = .ok (.iaload, 1) := by decide +kernel
theorem dL_law_418 : decode cL_law 418 = .ok (.invokevirtual 56, 3) := by decide +kernel
theorem dL_law_421 : decode cL_law 421 = .ok (.aload_n 2, 1) := by decide +kernel
theorem dL_law_422 : decode cL_law 422 = .ok (.aload_n 0, 1) := by decide +kernel
theorem dL_law_423 : decode cL_law 423 = .ok (.iload_n 3, 1) := by decide +kernel
theorem dL_law_424 : decode cL_law 424 = .ok (.iconst 1, 1) := by decide +kernel
theorem dL_law_425 : decode cL_law 425 = .ok (.iadd, 1) := by decide +kernel
theorem dL_law_426 : decode cL_law 426 = .ok (.iaload, 1) := by decide +kernel
theorem dL_law_427 : decode cL_law 427 = .ok (.invokevirtual 59, 3) := by decide +kernel
theorem dL_law_430 : decode cL_law 430 = .ok (.if_icmp .eq 688, 3) := by decide +kernel
theorem dL_law_433 : decode cL_law 433 = .ok (.iconst 0, 1) := by decide +kernel
theorem dL_law_434 : decode cL_law 434 = .ok (.ireturn, 1) := by decide +kernel
theorem dL_law_435 : decode cL_law 435 = .ok (.aload_n 1, 1) := by decide +kernel
theorem dL_law_436 : decode cL_law 436 = .ok (.aload_n 0, 1) := by decide +kernel
theorem dL_law_437 : decode cL_law 437 = .ok (.iload_n 3, 1) := by decide +kernel
theorem dL_law_438 : decode cL_law 438 = .ok (.iconst 1, 1) := by decide +kernel
theorem dL_law_439 : decode cL_law 439 = .ok (.iadd, 1) := by decide +kernel
theorem dL_law_440 : decode cL_law 440 = .ok (.iaload, 1) := by decide +kernel
theorem dL_law_441 : decode cL_law 441 = .ok (.invokevirtual 60, 3) := by decide +kernel
theorem dL_law_444 : decode cL_law 444 = .ok (.aload_n 2, 1) := by decide +kernel
theorem dL_law_445 : decode cL_law 445 = .ok (.aload_n 0, 1) := by decide +kernel
theorem dL_law_446 : decode cL_law 446 = .ok (.iload_n 3, 1) := by decide +kernel
theorem dL_law_447 : decode cL_law 447 = .ok (.iconst 1, 1) := by decide +kernel
theorem dL_law_448 : decode cL_law 448 = .ok (.iadd, 1) := by decide +kernel
theorem dL_law_449 : decode cL_law 449 = .ok (.iaload, 1) := by decide +kernel
theorem dL_law_450 : decode cL_law 450 = .ok (.invokevirtual 63, 3) := by decide +kernel
theorem dL_law_453 : decode cL_law 453 = .ok (.if_icmp .eq 665, 3) := by decide +kernel
theorem dL_law_456 : decode cL_law 456 = .ok (.iconst 0, 1) := by decide +kernel
theorem dL_law_457 : decode cL_law 457 = .ok (.ireturn, 1) := by decide +kernel
theorem dL_law_458 : decode cL_law 458 = .ok (.aload_n 1, 1) := by decide +kernel
theorem dL_law_459 : decode cL_law 459 = .ok (.aload_n 0, 1) := by decide +kernel
theorem dL_law_460 : decode cL_law 460 = .ok (.iload_n 3, 1) := by decide +kernel
theorem dL_law_461 : decode cL_law 461 = .ok (.iconst 1, 1) := by decide +kernel
theorem dL_law_462 : decode cL_law 462 = .ok (.iadd, 1) := by decide +kernel
theorem dL_law_463 : decode cL_law 463 = .ok (.iaload, 1) := by decide +kernel
theorem dL_law_464 : decode cL_law 464 = .ok (.aload_n 0, 1) := by decide +kernel
theorem dL_law_465 : decode cL_law 465 = .ok (.iload_n 3, 1) := by decide +kernel
theorem dL_law_466 : decode cL_law 466 = .ok (.iconst 2, 1) := by decide +kernel
theorem dL_law_467 : decode cL_law 467 = .ok (.iadd, 1) := by decide +kernel
theorem dL_law_468 : decode cL_law 468 = .ok (.iaload, 1) := by decide +kernel
theorem dL_law_469 : decode cL_law 469 = .ok (.invokevirtual 64, 3) := by decide +kernel
theorem dL_law_472 : decode cL_law 472 = .ok (.aload_n 2, 1) := by decide +kernel
theorem dL_law_473 : decode cL_law 473 = .ok (.aload_n 0, 1) := by decide +kernel
theorem dL_law_474 : decode cL_law 474 = .ok (.iload_n 3, 1) := by decide +kernel
theorem dL_law_475 : decode cL_law 475 = .ok (.iconst 1, 1) := by decide +kernel
theorem dL_law_476 : decode cL_law 476 = .ok (.iadd, 1) := by decide +kernel
theorem dL_law_477 : decode cL_law 477 = .ok (.iaload, 1) := by decide +kernel
theorem dL_law_478 : decode cL_law 478 = .ok (.aload_n 0, 1) := by decide +kernel
theorem dL_law_479 : decode cL_law 479 = .ok (.iload_n 3, 1) := by decide +kernel
theorem dL_law_480 : decode cL_law 480 = .ok (.iconst 2, 1) := by decide +kernel
theorem dL_law_481 : decode cL_law 481 = .ok (.iadd, 1) := by decide +kernel
theorem dL_law_482 : decode cL_law 482 = .ok (.iaload, 1) := by decide +kernel
theorem dL_law_483 : decode cL_law 483 = .ok (.invokevirtual 67, 3) := by decide +kernel
theorem dL_law_486 : decode cL_law 486 = .ok (.if_icmp .eq 632, 3) := by decide +kernel
theorem dL_law_489 : decode cL_law 489 = .ok (.iconst 0, 1) := by decide +kernel
theorem dL_law_490 : decode cL_law 490 = .ok (.ireturn, 1) := by decide +kernel
theorem dL_law_491 : decode cL_law 491 = .ok (.aload_n 1, 1) := by decide +kernel
theorem dL_law_492 : decode cL_law 492 = .ok (.aload_n 0, 1) := by decide +kernel
theorem dL_law_493 : decode cL_law 493 = .ok (.iload_n 3, 1) := by decide +kernel
theorem dL_law_494 : decode cL_law 494 = .ok (.iconst 1, 1) := by decide +kernel
theorem dL_law_495 : decode cL_law 495 = .ok (.iadd, 1) := by decide +kernel
theorem dL_law_496 : decode cL_law 496 = .ok (.iaload, 1) := by decide +kernel
theorem dL_law_497 : decode cL_law 497 = .ok (.invokevirtual 68, 3) := by decide +kernel
theorem dL_law_500 : decode cL_law 500 = .ok (.aload_n 2, 1) := by decide +kernel
theorem dL_law_501 : decode cL_law 501 = .ok (.aload_n 0, 1) := by decide +kernel
theorem dL_law_502 : decode cL_law 502 = .ok (.iload_n 3, 1) := by decide +kernel
theorem dL_law_503 : decode cL_law 503 = .ok (.iconst 1, 1) := by decide +kernel
theorem dL_law_504 : decode cL_law 504 = .ok (.iadd, 1) := by decide +kernel
theorem dL_law_505 : decode cL_law 505 = .ok (.iaload, 1) := by decide +kernel
theorem dL_law_506 : decode cL_law 506 = .ok (.invokevirtual 71, 3) := by decide +kernel
theorem dL_law_509 : decode cL_law 509 = .ok (.if_icmp .eq 609, 3) := by decide +kernel
theorem dL_law_512 : decode cL_law 512 = .ok (.iconst 0, 1) := by decide +kernel
theorem dL_law_513 : decode cL_law 513 = .ok (.ireturn, 1) := by decide +kernel
theorem dL_law_514 : decode cL_law 514 = .ok (.aload_n 1, 1) := by decide +kernel
theorem dL_law_515 : decode cL_law 515 = .ok (.aload_n 0, 1) := by decide +kernel
theorem dL_law_516 : decode cL_law 516 = .ok (.iload_n 3, 1) := by decide +kernel
theorem dL_law_517 : decode cL_law 517 = .ok (.iconst 1, 1) := by decide +kernel
theorem dL_law_518 : decode cL_law 518 = .ok (.iadd, 1) := by decide +kernel
theorem dL_law_519 : decode cL_law 519 = .ok (.iaload, 1) := by decide +kernel
theorem dL_law_520 : decode cL_law 520 = .ok (.aload_n 0, 1) := by decide +kernel
theorem dL_law_521 : decode cL_law 521 = .ok (.iload_n 3, 1) := by decide +kernel
theorem dL_law_522 : decode cL_law 522 = .ok (.iconst 2, 1) := by decide +kernel
theorem dL_law_523 : decode cL_law 523 = .ok (.iadd, 1) := by decide +kernel
theorem dL_law_524 : decode cL_law 524 = .ok (.iaload, 1) := by decide +kernel
theorem dL_law_525 : decode cL_law 525 = .ok (.aload_n 0, 1) := by decide +kernel
theorem dL_law_526 : decode cL_law 526 = .ok (.iload_n 3, 1) := by decide +kernel
theorem dL_law_527 : decode cL_law 527 = .ok (.iconst 3, 1) := by decide +kernel
theorem dL_law_528 : decode cL_law 528 = .ok (.iadd, 1) := by decide +kernel
theorem dL_law_529 : decode cL_law 529 = .ok (.iaload, 1) := by decide +kernel
theorem dL_law_530 : decode cL_law 530 = .ok (.invokevirtual 72, 3) := by decide +kernel
theorem dL_law_533 : decode cL_law 533 = .ok (.aload_n 2, 1) := by decide +kernel
theorem dL_law_534 : decode cL_law 534 = .ok (.aload_n 0, 1) := by decide +kernel
theorem dL_law_535 : decode cL_law 535 = .ok (.iload_n 3, 1) := by decide +kernel
theorem dL_law_536 : decode cL_law 536 = .ok (.iconst 1, 1) := by decide +kernel
theorem dL_law_537 : decode cL_law 537 = .ok (.iadd, 1) := by decide +kernel
theorem dL_law_538 : decode cL_law 538 = .ok (.iaload, 1) := by decide +kernel
theorem dL_law_539 : decode cL_law 539 = .ok (.aload_n 0, 1) := by decide +kernel
theorem dL_law_540 : decode cL_law 540 = .ok (.iload_n 3, 1) := by decide +kernel
theorem dL_law_541 : decode cL_law 541 = .ok (.iconst 2, 1) := by decide +kernel
theorem dL_law_542 : decode cL_law 542 = .ok (.iadd, 1) := by decide +kernel
theorem dL_law_543 : decode cL_law 543 = .ok (.iaload, 1) := by decide +kernel
theorem dL_law_544 : decode cL_law 544 = .ok (.aload_n 0, 1) := by decide +kernel
theorem dL_law_545 : decode cL_law 545 = .ok (.iload_n 3, 1) := by decide +kernel
theorem dL_law_546 : decode cL_law 546 = .ok (.iconst 3, 1) := by decide +kernel
theorem dL_law_547 : decode cL_law 547 = .ok (.iadd, 1) := by decide +kernel
theorem dL_law_548 : decode cL_law 548 = .ok (.iaload, 1) := by decide +kernel
theorem dL_law_549 : decode cL_law 549 = .ok (.invokevirtual 76, 3) := by decide +kernel
theorem dL_law_552 : decode cL_law 552 = .ok (.if_icmp .eq 566, 3) := by decide +kernel
theorem dL_law_555 : decode cL_law 555 = .ok (.iconst 0, 1) := by decide +kernel
theorem dL_law_556 : decode cL_law 556 = .ok (.ireturn, 1) := by decide +kernel
theorem dL_law_557 : decode cL_law 557 = .ok (.aload_n 1, 1) := by decide +kernel
theorem dL_law_558 : decode cL_law 558 = .ok (.aload_n 0, 1) := by decide +kernel
theorem dL_law_559 : decode cL_law 559 = .ok (.iload_n 3, 1) := by decide +kernel
theorem dL_law_560 : decode cL_law 560 = .ok (.iconst 1, 1) := by decide +kernel
theorem dL_law_561 : decode cL_law 561 = .ok (.iadd, 1) := by decide +kernel
theorem dL_law_562 : decode cL_law 562 = .ok (.iaload, 1) := by decide +kernel
theorem dL_law_563 : decode cL_law 563 = .ok (.aload_n 0, 1) := by decide +kernel
theorem dL_law_564 : decode cL_law 564 = .ok (.iload_n 3, 1) := by decide +kernel
theorem dL_law_565 : decode cL_law 565 = .ok (.iconst 2, 1) := by decide +kernel
theorem dL_law_566 : decode cL_law 566 = .ok (.iadd, 1) := by decide +kernel
theorem dL_law_567 : decode cL_law 567 = .ok (.iaload, 1) := by decide +kernel
theorem dL_law_568 : decode cL_law 568 = .ok (.aload_n 0, 1) := by decide +kernel
theorem dL_law_569 : decode cL_law 569 = .ok (.iload_n 3, 1) := by decide +kernel
theorem dL_law_570 : decode cL_law 570 = .ok (.iconst 3, 1) := by decide +kernel
theorem dL_law_571 : decode cL_law 571 = .ok (.iadd, 1) := by decide +kernel
theorem dL_law_572 : decode cL_law 572 = .ok (.iaload, 1) := by decide +kernel
theorem dL_law_573 : decode cL_law 573 = .ok (.invokevirtual 77, 3) := by decide +kernel
theorem dL_law_576 : decode cL_law 576 = .ok (.aload_n 2, 1) := by decide +kernel
theorem dL_law_577 : decode cL_law 577 = .ok (.aload_n 0, 1) := by decide +kernel
theorem dL_law_578 : decode cL_law 578 = .ok (.iload_n 3, 1) := by decide +kernel
theorem dL_law_579 : decode cL_law 579 = .ok (.iconst 1, 1) := by decide +kernel
theorem dL_law_580 : decode cL_law 580 = .ok (.iadd, 1) := by decide +kernel
theorem dL_law_581 : decode cL_law 581 = .ok (.iaload, 1) := by decide +kernel
theorem dL_law_582 : decode cL_law 582 = .ok (.aload_n 0, 1) := by decide +kernel
theorem dL_law_583 : decode cL_law 583 = .ok (.iload_n 3, 1) := by decide +kernel
theorem dL_law_584 : decode cL_law 584 = .ok (.iconst 2, 1) := by decide +kernel
theorem dL_law_585 : decode cL_law 585 = .ok (.iadd, 1) := by decide +kernel
theorem dL_law_586 : decode cL_law 586 = .ok (.iaload, 1) := by decide +kernel
theorem dL_law_587 : decode cL_law 587 = .ok (.aload_n 0, 1) := by decide +kernel
theorem dL_law_588 : decode cL_law 588 = .ok (.iload_n 3, 1) := by decide +kernel
theorem dL_law_589 : decode cL_law 589 = .ok (.iconst 3, 1) := by decide +kernel
theorem dL_law_590 : decode cL_law 590 = .ok (.iadd, 1) := by decide +kernel
theorem dL_law_591 : decode cL_law 591 = .ok (.iaload, 1) := by decide +kernel
theorem dL_law_592 : decode cL_law 592 = .ok (.invokevirtual 81, 3) := by decide +kernel
theorem dL_law_595 : decode cL_law 595 = .ok (.lcmp, 1) := by decide +kernel
theorem dL_law_596 : decode cL_law 596 = .ok (.ifCond .eq 522, 3) := by decide +kernel
theorem dL_law_599 : decode cL_law 599 = .ok (.iconst 0, 1) := by decide +kernel
theorem dL_law_600 : decode cL_law 600 = .ok (.ireturn, 1) := by decide +kernel
theorem dL_law_601 : decode cL_law 601 = .ok (.aload_n 1, 1) := by decide +kernel
theorem dL_law_602 : decode cL_law 602 = .ok (.aload_n 0, 1) := by decide +kernel
theorem dL_law_603 : decode cL_law 603 = .ok (.iload_n 3, 1) := by decide +kernel
theorem dL_law_604 : decode cL_law 604 = .ok (.iconst 1, 1) := by decide +kernel
theorem dL_law_605 : decode cL_law 605 = .ok (.iadd, 1) := by decide +kernel
theorem dL_law_606 : decode cL_law 606 = .ok (.iaload, 1) := by decide +kernel
theorem dL_law_607 : decode cL_law 607 = .ok (.aload_n 0, 1) := by decide +kernel
theorem dL_law_608 : decode cL_law 608 = .ok (.iload_n 3, 1) := by decide +kernel
theorem dL_law_609 : decode cL_law 609 = .ok (.iconst 2, 1) := by decide +kernel
theorem dL_law_610 : decode cL_law 610 = .ok (.iadd, 1) := by decide +kernel
theorem dL_law_611 : decode cL_law 611 = .ok (.iaload, 1) := by decide +kernel
theorem dL_law_612 : decode cL_law 612 = .ok (.invokevirtual 82, 3) := by decide +kernel
theorem dL_law_615 : decode cL_law 615 = .ok (.aload_n 2, 1) := by decide +kernel
theorem dL_law_616 : decode cL_law 616 = .ok (.aload_n 0, 1) := by decide +kernel
theorem dL_law_617 : decode cL_law 617 = .ok (.iload_n 3, 1) := by decide +kernel
theorem dL_law_618 : decode cL_law 618 = .ok (.iconst 1, 1) := by decide +kernel
theorem dL_law_619 : decode cL_law 619 = .ok (.iadd, 1) := by decide +kernel
theorem dL_law_620 : decode cL_law 620 = .ok (.iaload, 1) := by decide +kernel
theorem dL_law_621 : decode cL_law 621 = .ok (.aload_n 0, 1) := by decide +kernel
theorem dL_law_622 : decode cL_law 622 = .ok (.iload_n 3, 1) := by decide +kernel
theorem dL_law_623 : decode cL_law 623 = .ok (.iconst 2, 1) := by decide +kernel
theorem dL_law_624 : decode cL_law 624 = .ok (.iadd, 1) := by decide +kernel
theorem dL_law_625 : decode cL_law 625 = .ok (.iaload, 1) := by decide +kernel
theorem dL_law_626 : decode cL_law 626 = .ok (.invokevirtual 86, 3) := by decide +kernel
theorem dL_law_629 : decode cL_law 629 = .ok (.lcmp, 1) := by decide +kernel
theorem dL_law_630 : decode cL_law 630 = .ok (.ifCond .eq 488, 3) := by decide +kernel
theorem dL_law_633 : decode cL_law 633 = .ok (.iconst 0, 1) := by decide +kernel
theorem dL_law_634 : decode cL_law 634 = .ok (.ireturn, 1) := by decide +kernel
theorem dL_law_635 : decode cL_law 635 = .ok (.aload_n 1, 1) := by decide +kernel
theorem dL_law_636 : decode cL_law 636 = .ok (.aload_n 0, 1) := by decide +kernel
theorem dL_law_637 : decode cL_law 637 = .ok (.iload_n 3, 1) := by decide +kernel
theorem dL_law_638 : decode cL_law 638 = .ok (.iconst 1, 1) := by decide +kernel
theorem dL_law_639 : decode cL_law 639 = .ok (.iadd, 1) := by decide +kernel
theorem dL_law_640 : decode cL_law 640 = .ok (.iaload, 1) := by decide +kernel
theorem dL_law_641 : decode cL_law 641 = .ok (.aload_n 0, 1) := by decide +kernel
theorem dL_law_642 : decode cL_law 642 = .ok (.iload_n 3, 1) := by decide +kernel
theorem dL_law_643 : decode cL_law 643 = .ok (.iconst 2, 1) := by decide +kernel
theorem dL_law_644 : decode cL_law 644 = .ok (.iadd, 1) := by decide +kernel
theorem dL_law_645 : decode cL_law 645 = .ok (.iaload, 1) := by decide +kernel
theorem dL_law_646 : decode cL_law 646 = .ok (.aload_n 0, 1) := by decide +kernel
theorem dL_law_647 : decode cL_law 647 = .ok (.iload_n 3, 1) := by decide +kernel
theorem dL_law_648 : decode cL_law 648 = .ok (.iconst 3, 1) := by decide +kernel
theorem dL_law_649 : decode cL_law 649 = .ok (.iadd, 1) := by decide +kernel
theorem dL_law_650 : decode cL_law 650 = .ok (.iaload, 1) := by decide +kernel
theorem dL_law_651 : decode cL_law 651 = .ok (.aload_n 0, 1) := by decide +kernel
theorem dL_law_652 : decode cL_law 652 = .ok (.iload_n 3, 1) := by decide +kernel
theorem dL_law_653 : decode cL_law 653 = .ok (.iconst 4, 1) := by decide +kernel
theorem dL_law_654 : decode cL_law 654 = .ok (.iadd, 1) := by decide +kernel
theorem dL_law_655 : decode cL_law 655 = .ok (.iaload, 1) := by decide +kernel
theorem dL_law_656 : decode cL_law 656 = .ok (.invokevirtual 87, 3) := by decide +kernel
theorem dL_law_659 : decode cL_law 659 = .ok (.aload_n 2, 1) := by decide +kernel
theorem dL_law_660 : decode cL_law 660 = .ok (.aload_n 0, 1) := by decide +kernel
theorem dL_law_661 : decode cL_law 661 = .ok (.iload_n 3, 1) := by decide +kernel
theorem dL_law_662 : decode cL_law 662 = .ok (.iconst 1, 1) := by decide +kernel
theorem dL_law_663 : decode cL_law 663 = .ok (.iadd, 1) := by decide +kernel
theorem dL_law_664 : decode cL_law 664 = .ok (.iaload, 1) := by decide +kernel
theorem dL_law_665 : decode cL_law 665 = .ok (.aload_n 0, 1) := by decide +kernel
theorem dL_law_666 : decode cL_law 666 = .ok (.iload_n 3, 1) := by decide +kernel
theorem dL_law_667 : decode cL_law 667 = .ok (.iconst 2, 1) := by decide +kernel
theorem dL_law_668 : decode cL_law 668 = .ok (.iadd, 1) := by decide +kernel
theorem dL_law_669 : decode cL_law 669 = .ok (.iaload, 1) := by decide +kernel
theorem dL_law_670 : decode cL_law 670 = .ok (.aload_n 0, 1) := by decide +kernel
theorem dL_law_671 : decode cL_law 671 = .ok (.iload_n 3, 1) := by decide +kernel
theorem dL_law_672 : decode cL_law 672 = .ok (.iconst 3, 1) := by decide +kernel
theorem dL_law_673 : decode cL_law 673 = .ok (.iadd, 1) := by decide +kernel
theorem dL_law_674 : decode cL_law 674 = .ok (.iaload, 1) := by decide +kernel
theorem dL_law_675 : decode cL_law 675 = .ok (.aload_n 0, 1) := by decide +kernel
theorem dL_law_676 : decode cL_law 676 = .ok (.iload_n 3, 1) := by decide +kernel
theorem dL_law_677 : decode cL_law 677 = .ok (.iconst 4, 1) := by decide +kernel
theorem dL_law_678 : decode cL_law 678 = .ok (.iadd, 1) := by decide +kernel
theorem dL_law_679 : decode cL_law 679 = .ok (.iaload, 1) := by decide +kernel
theorem dL_law_680 : decode cL_law 680 = .ok (.invokevirtual 91, 3) := by decide +kernel
theorem dL_law_683 : decode cL_law 683 = .ok (.if_icmp .eq 435, 3) := by decide +kernel
theorem dL_law_686 : decode cL_law 686 = .ok (.iconst 0, 1) := by decide +kernel
theorem dL_law_687 : decode cL_law 687 = .ok (.ireturn, 1) := by decide +kernel
theorem dL_law_688 : decode cL_law 688 = .ok (.aload_n 1, 1) := by decide +kernel
theorem dL_law_689 : decode cL_law 689 = .ok (.aload_n 0, 1) := by decide +kernel
theorem dL_law_690 : decode cL_law 690 = .ok (.iload_n 3, 1) := by decide +kernel
theorem dL_law_691 : decode cL_law 691 = .ok (.iconst 1, 1) := by decide +kernel
theorem dL_law_692 : decode cL_law 692 = .ok (.iadd, 1) := by decide +kernel
theorem dL_law_693 : decode cL_law 693 = .ok (.iaload, 1) := by decide +kernel
theorem dL_law_694 : decode cL_law 694 = .ok (.invokevirtual 92, 3) := by decide +kernel
theorem dL_law_697 : decode cL_law 697 = .ok (.aload_n 2, 1) := by decide +kernel
theorem dL_law_698 : decode cL_law 698 = .ok (.aload_n 0, 1) := by decide +kernel
theorem dL_law_699 : decode cL_law 699 = .ok (.iload_n 3, 1) := by decide +kernel
theorem dL_law_700 : decode cL_law 700 = .ok (.iconst 1, 1) := by decide +kernel
theorem dL_law_701 : decode cL_law 701 = .ok (.iadd, 1) := by decide +kernel
theorem dL_law_702 : decode cL_law 702 = .ok (.iaload, 1) := by decide +kernel
theorem dL_law_703 : decode cL_law 703 = .ok (.invokevirtual 95, 3) := by decide +kernel
theorem dL_law_706 : decode cL_law 706 = .ok (.if_icmp .eq 412, 3) := by decide +kernel
theorem dL_law_709 : decode cL_law 709 = .ok (.iconst 0, 1) := by decide +kernel
theorem dL_law_710 : decode cL_law 710 = .ok (.ireturn, 1) := by decide +kernel
theorem dL_law_711 : decode cL_law 711 = .ok (.aload_n 1, 1) := by decide +kernel
theorem dL_law_712 : decode cL_law 712 = .ok (.invokevirtual 96, 3) := by decide +kernel
theorem dL_law_715 : decode cL_law 715 = .ok (.aload_n 2, 1) := by decide +kernel
theorem dL_law_716 : decode cL_law 716 = .ok (.invokevirtual 99, 3) := by decide +kernel
theorem dL_law_719 : decode cL_law 719 = .ok (.if_icmp .eq 399, 3) := by decide +kernel
theorem dL_law_722 : decode cL_law 722 = .ok (.iconst 0, 1) := by decide +kernel
theorem dL_law_723 : decode cL_law 723 = .ok (.ireturn, 1) := by decide +kernel
theorem dL_law_724 : decode cL_law 724 = .ok (.aload_n 1, 1) := by decide +kernel
theorem dL_law_725 : decode cL_law 725 = .ok (.aload_n 0, 1) := by decide +kernel
theorem dL_law_726 : decode cL_law 726 = .ok (.iload_n 3, 1) := by decide +kernel
theorem dL_law_727 : decode cL_law 727 = .ok (.iconst 1, 1) := by decide +kernel
theorem dL_law_728 : decode cL_law 728 = .ok (.iadd, 1) := by decide +kernel
theorem dL_law_729 : decode cL_law 729 = .ok (.iaload, 1) := by decide +kernel
theorem dL_law_730 : decode cL_law 730 = .ok (.aload_n 0, 1) := by decide +kernel
theorem dL_law_731 : decode cL_law 731 = .ok (.iload_n 3, 1) := by decide +kernel
theorem dL_law_732 : decode cL_law 732 = .ok (.iconst 2, 1) := by decide +kernel
theorem dL_law_733 : decode cL_law 733 = .ok (.iadd, 1) := by decide +kernel
theorem dL_law_734 : decode cL_law 734 = .ok (.iaload, 1) := by decide +kernel
theorem dL_law_735 : decode cL_law 735 = .ok (.invokevirtual 100, 3) := by decide +kernel
theorem dL_law_738 : decode cL_law 738 = .ok (.aload_n 2, 1) := by decide +kernel
theorem dL_law_739 : decode cL_law 739 = .ok (.aload_n 0, 1) := by decide +kernel
theorem dL_law_740 : decode cL_law 740 = .ok (.iload_n 3, 1) := by decide +kernel
theorem dL_law_741 : decode cL_law 741 = .ok (.iconst 1, 1) := by decide +kernel
theorem dL_law_742 : decode cL_law 742 = .ok (.iadd, 1) := by decide +kernel
theorem dL_law_743 : decode cL_law 743 = .ok (.iaload, 1) := by decide +kernel
theorem dL_law_744 : decode cL_law 744 = .ok (.aload_n 0, 1) := by decide +kernel
theorem dL_law_745 : decode cL_law 745 = .ok (.iload_n 3, 1) := by decide +kernel
theorem dL_law_746 : decode cL_law 746 = .ok (.iconst 2, 1) := by decide +kernel
theorem dL_law_747 : decode cL_law 747 = .ok (.iadd, 1) := by decide +kernel
theorem dL_law_748 : decode cL_law 748 = .ok (.iaload, 1) := by decide +kernel
theorem dL_law_749 : decode cL_law 749 = .ok (.invokevirtual 103, 3) := by decide +kernel
theorem dL_law_752 : decode cL_law 752 = .ok (.if_icmp .eq 366, 3) := by decide +kernel
theorem dL_law_755 : decode cL_law 755 = .ok (.iconst 0, 1) := by decide +kernel
theorem dL_law_756 : decode cL_law 756 = .ok (.ireturn, 1) := by decide +kernel
theorem dL_law_757 : decode cL_law 757 = .ok (.aload_n 1, 1) := by decide +kernel
theorem dL_law_758 : decode cL_law 758 = .ok (.invokevirtual 104, 3) := by decide +kernel
theorem dL_law_761 : decode cL_law 761 = .ok (.aload_n 2, 1) := by decide +kernel
theorem dL_law_762 : decode cL_law 762 = .ok (.invokevirtual 107, 3) := by decide +kernel
theorem dL_law_765 : decode cL_law 765 = .ok (.if_icmp .eq 353, 3) := by decide +kernel
theorem dL_law_768 : decode cL_law 768 = .ok (.iconst 0, 1) := by decide +kernel
theorem dL_law_769 : decode cL_law 769 = .ok (.ireturn, 1) := by decide +kernel
theorem dL_law_770 : decode cL_law 770 = .ok (.aload_n 1, 1) := by decide +kernel
theorem dL_law_771 : decode cL_law 771 = .ok (.invokevirtual 108, 3) := by decide +kernel
theorem dL_law_774 : decode cL_law 774 = .ok (.aload_n 2, 1) := by decide +kernel
theorem dL_law_775 : decode cL_law 775 = .ok (.invokevirtual 111, 3) := by decide +kernel
theorem dL_law_778 : decode cL_law 778 = .ok (.if_icmp .eq 340, 3) := by decide +kernel
theorem dL_law_781 : decode cL_law 781 = .ok (.iconst 0, 1) := by decide +kernel
theorem dL_law_782 : decode cL_law 782 = .ok (.ireturn, 1) := by decide +kernel
theorem dL_law_783 : decode cL_law 783 = .ok (.aload_n 1, 1) := by decide +kernel
theorem dL_law_784 : decode cL_law 784 = .ok (.aload_n 0, 1) := by decide +kernel
theorem dL_law_785 : decode cL_law 785 = .ok (.iload_n 3, 1) := by decide +kernel
theorem dL_law_786 : decode cL_law 786 = .ok (.iconst 1, 1) := by decide +kernel
theorem dL_law_787 : decode cL_law 787 = .ok (.iadd, 1) := by decide +kernel
theorem dL_law_788 : decode cL_law 788 = .ok (.iaload, 1) := by decide +kernel
theorem dL_law_789 : decode cL_law 789 = .ok (.aload_n 0, 1) := by decide +kernel
theorem dL_law_790 : decode cL_law 790 = .ok (.iload_n 3, 1) := by decide +kernel
theorem dL_law_791 : decode cL_law 791 = .ok (.iconst 2, 1) := by decide +kernel
theorem dL_law_792 : decode cL_law 792 = .ok (.iadd, 1) := by decide +kernel
theorem dL_law_793 : decode cL_law 793 = .ok (.iaload, 1) := by decide +kernel
theorem dL_law_794 : decode cL_law 794 = .ok (.aload_n 0, 1) := by decide +kernel
theorem dL_law_795 : decode cL_law 795 = .ok (.iload_n 3, 1) := by decide +kernel
theorem dL_law_796 : decode cL_law 796 = .ok (.iconst 3, 1) := by decide +kernel
theorem dL_law_797 : decode cL_law 797 = .ok (.iadd, 1) := by decide +kernel
theorem dL_law_798 : decode cL_law 798 = .ok (.iaload, 1) := by decide +kernel
theorem dL_law_799 : decode cL_law 799 = .ok (.invokevirtual 112, 3) := by decide +kernel
theorem dL_law_802 : decode cL_law 802 = .ok (.aload_n 2, 1) := by decide +kernel
theorem dL_law_803 : decode cL_law 803 = .ok (.aload_n 0, 1) := by decide +kernel
theorem dL_law_804 : decode cL_law 804 = .ok (.iload_n 3, 1) := by decide +kernel
theorem dL_law_805 : decode cL_law 805 = .ok (.iconst 1, 1) := by decide +kernel
theorem dL_law_806 : decode cL_law 806 = .ok (.iadd, 1) := by decide +kernel
theorem dL_law_807 : decode cL_law 807 = .ok (.iaload, 1) := by decide +kernel
theorem dL_law_808 : decode cL_law 808 = .ok (.aload_n 0, 1) := by decide +kernel
theorem dL_law_809 : decode cL_law 809 = .ok (.iload_n 3, 1) := by decide +kernel
theorem dL_law_810 : decode cL_law 810 = .ok (.iconst 2, 1) := by decide +kernel
theorem dL_law_811 : decode cL_law 811 = .ok (.iadd, 1) := by decide +kernel
theorem dL_law_812 : decode cL_law 812 = .ok (.iaload, 1) := by decide +kernel
theorem dL_law_813 : decode cL_law 813 = .ok (.aload_n 0, 1) := by decide +kernel
theorem dL_law_814 : decode cL_law 814 = .ok (.iload_n 3, 1) := by decide +kernel
theorem dL_law_815 : decode cL_law 815 = .ok (.iconst 3, 1) := by decide +kernel
theorem dL_law_816 : decode cL_law 816 = .ok (.iadd, 1) := by decide +kernel
theorem dL_law_817 : decode cL_law 817 = .ok (.iaload, 1) := by decide +kernel
theorem dL_law_818 : decode cL_law 818 = .ok (.invokevirtual 115, 3) := by decide +kernel
theorem dL_law_821 : decode cL_law 821 = .ok (.if_icmp .eq 297, 3) := by decide +kernel
theorem dL_law_824 : decode cL_law 824 = .ok (.iconst 0, 1) := by decide +kernel
theorem dL_law_825 : decode cL_law 825 = .ok (.ireturn, 1) := by decide +kernel
theorem dL_law_826 : decode cL_law 826 = .ok (.aload_n 1, 1) := by decide +kernel
theorem dL_law_827 : decode cL_law 827 = .ok (.aload_n 0, 1) := by decide +kernel
theorem dL_law_828 : decode cL_law 828 = .ok (.iload_n 3, 1) := by decide +kernel
theorem dL_law_829 : decode cL_law 829 = .ok (.iconst 1, 1) := by decide +kernel
theorem dL_law_830 : decode cL_law 830 = .ok (.iadd, 1) := by decide +kernel
theorem dL_law_831 : decode cL_law 831 = .ok (.iaload, 1) := by decide +kernel
theorem dL_law_832 : decode cL_law 832 = .ok (.invokevirtual 116, 3) := by decide +kernel
theorem dL_law_835 : decode cL_law 835 = .ok (.aload_n 2, 1) := by decide +kernel
theorem dL_law_836 : decode cL_law 836 = .ok (.aload_n 0, 1) := by decide +kernel
theorem dL_law_837 : decode cL_law 837 = .ok (.iload_n 3, 1) := by decide +kernel
theorem dL_law_838 : decode cL_law 838 = .ok (.iconst 1, 1) := by decide +kernel
theorem dL_law_839 : decode cL_law 839 = .ok (.iadd, 1) := by decide +kernel
theorem dL_law_840 : decode cL_law 840 = .ok (.iaload, 1) := by decide +kernel
theorem dL_law_841 : decode cL_law 841 = .ok (.invokevirtual 119, 3) := by decide +kernel
theorem dL_law_844 : decode cL_law 844 = .ok (.if_icmp .eq 274, 3) := by decide +kernel
theorem dL_law_847 : decode cL_law 847 = .ok (.iconst 0, 1) := by decide +kernel
theorem dL_law_848 : decode cL_law 848 = .ok (.ireturn, 1) := by decide +kernel
theorem dL_law_849 : decode cL_law 849 = .ok (.aload_n 1, 1) := by decide +kernel
theorem dL_law_850 : decode cL_law 850 = .ok (.aload_n 0, 1) := by decide +kernel
theorem dL_law_851 : decode cL_law 851 = .ok (.iload_n 3, 1) := by decide +kernel
theorem dL_law_852 : decode cL_law 852 = .ok (.iconst 1, 1) := by decide +kernel
theorem dL_law_853 : decode cL_law 853 = .ok (.iadd, 1) := by decide +kernel
theorem dL_law_854 : decode cL_law 854 = .ok (.iaload, 1) := by decide +kernel
theorem dL_law_855 : decode cL_law 855 = .ok (.aload_n 0, 1) := by decide +kernel
theorem dL_law_856 : decode cL_law 856 = .ok (.iload_n 3, 1) := by decide +kernel
theorem dL_law_857 : decode cL_law 857 = .ok (.iconst 2, 1) := by decide +kernel
theorem dL_law_858 : decode cL_law 858 = .ok (.iadd, 1) := by decide +kernel
theorem dL_law_859 : decode cL_law 859 = .ok (.iaload, 1) := by decide +kernel
theorem dL_law_860 : decode cL_law 860 = .ok (.invokevirtual 120, 3) := by decide +kernel
theorem dL_law_863 : decode cL_law 863 = .ok (.aload_n 2, 1) := by decide +kernel
theorem dL_law_864 : decode cL_law 864 = .ok (.aload_n 0, 1) := by decide +kernel
theorem dL_law_865 : decode cL_law 865 = .ok (.iload_n 3, 1) := by decide +kernel
theorem dL_law_866 : decode cL_law 866 = .ok (.iconst 1, 1) := by decide +kernel
theorem dL_law_867 : decode cL_law 867 = .ok (.iadd, 1) := by decide +kernel
theorem dL_law_868 : decode cL_law 868 = .ok (.iaload, 1) := by decide +kernel
theorem dL_law_869 : decode cL_law 869 = .ok (.aload_n 0, 1) := by decide +kernel
theorem dL_law_870 : decode cL_law 870 = .ok (.iload_n 3, 1) := by decide +kernel
theorem dL_law_871 : decode cL_law 871 = .ok (.iconst 2, 1) := by decide +kernel
theorem dL_law_872 : decode cL_law 872 = .ok (.iadd, 1) := by decide +kernel
theorem dL_law_873 : decode cL_law 873 = .ok (.iaload, 1) := by decide +kernel
theorem dL_law_874 : decode cL_law 874 = .ok (.invokevirtual 123, 3) := by decide +kernel
theorem dL_law_877 : decode cL_law 877 = .ok (.if_icmp .eq 241, 3) := by decide +kernel
theorem dL_law_880 : decode cL_law 880 = .ok (.iconst 0, 1) := by decide +kernel
theorem dL_law_881 : decode cL_law 881 = .ok (.ireturn, 1) := by decide +kernel
theorem dL_law_882 : decode cL_law 882 = .ok (.aload_n 1, 1) := by decide +kernel
theorem dL_law_883 : decode cL_law 883 = .ok (.aload_n 0, 1) := by decide +kernel
theorem dL_law_884 : decode cL_law 884 = .ok (.iload_n 3, 1) := by decide +kernel
theorem dL_law_885 : decode cL_law 885 = .ok (.iconst 1, 1) := by decide +kernel
theorem dL_law_886 : decode cL_law 886 = .ok (.iadd, 1) := by decide +kernel
theorem dL_law_887 : decode cL_law 887 = .ok (.iaload, 1) := by decide +kernel
theorem dL_law_888 : decode cL_law 888 = .ok (.invokevirtual 124, 3) := by decide +kernel
theorem dL_law_891 : decode cL_law 891 = .ok (.aload_n 2, 1) := by decide +kernel
theorem dL_law_892 : decode cL_law 892 = .ok (.aload_n 0, 1) := by decide +kernel
theorem dL_law_893 : decode cL_law 893 = .ok (.iload_n 3, 1) := by decide +kernel
theorem dL_law_894 : decode cL_law 894 = .ok (.iconst 1, 1) := by decide +kernel
theorem dL_law_895 : decode cL_law 895 = .ok (.iadd, 1) := by decide +kernel
theorem dL_law_896 : decode cL_law 896 = .ok (.iaload, 1) := by decide +kernel
theorem dL_law_897 : decode cL_law 897 = .ok (.invokevirtual 127, 3) := by decide +kernel
theorem dL_law_900 : decode cL_law 900 = .ok (.if_icmp .eq 218, 3) := by decide +kernel
theorem dL_law_903 : decode cL_law 903 = .ok (.iconst 0, 1) := by decide +kernel
theorem dL_law_904 : decode cL_law 904 = .ok (.ireturn, 1) := by decide +kernel
theorem dL_law_905 : decode cL_law 905 = .ok (.aload_n 1, 1) := by decide +kernel
theorem dL_law_906 : decode cL_law 906 = .ok (.aload_n 0, 1) := by decide +kernel
theorem dL_law_907 : decode cL_law 907 = .ok (.iload_n 3, 1) := by decide +kernel
theorem dL_law_908 : decode cL_law 908 = .ok (.iconst 1, 1) := by decide +kernel
theorem dL_law_909 : decode cL_law 909 = .ok (.iadd, 1) := by decide +kernel
theorem dL_law_910 : decode cL_law 910 = .ok (.iaload, 1) := by decide +kernel
theorem dL_law_911 : decode cL_law 911 = .ok (.aload_n 0, 1) := by decide +kernel
theorem dL_law_912 : decode cL_law 912 = .ok (.iload_n 3, 1) := by decide +kernel
theorem dL_law_913 : decode cL_law 913 = .ok (.iconst 2, 1) := by decide +kernel
theorem dL_law_914 : decode cL_law 914 = .ok (.iadd, 1) := by decide +kernel
theorem dL_law_915 : decode cL_law 915 = .ok (.iaload, 1) := by decide +kernel
theorem dL_law_916 : decode cL_law 916 = .ok (.aload_n 0, 1) := by decide +kernel
theorem dL_law_917 : decode cL_law 917 = .ok (.iload_n 3, 1) := by decide +kernel
theorem dL_law_918 : decode cL_law 918 = .ok (.iconst 3, 1) := by decide +kernel
theorem dL_law_919 : decode cL_law 919 = .ok (.iadd, 1) := by decide +kernel
theorem dL_law_920 : decode cL_law 920 = .ok (.iaload, 1) := by decide +kernel
theorem dL_law_921 : decode cL_law 921 = .ok (.invokevirtual 128, 3) := by decide +kernel
theorem dL_law_924 : decode cL_law 924 = .ok (.aload_n 2, 1) := by decide +kernel
theorem dL_law_925 : decode cL_law 925 = .ok (.aload_n 0, 1) := by decide +kernel
theorem dL_law_926 : decode cL_law 926 = .ok (.iload_n 3, 1) := by decide +kernel
theorem dL_law_927 : decode cL_law 927 = .ok (.iconst 1, 1) := by decide +kernel
theorem dL_law_928 : decode cL_law 928 = .ok (.iadd, 1) := by decide +kernel
theorem dL_law_929 : decode cL_law 929 = .ok (.iaload, 1) := by decide +kernel
theorem dL_law_930 : decode cL_law 930 = .ok (.aload_n 0, 1) := by decide +kernel
theorem dL_law_931 : decode cL_law 931 = .ok (.iload_n 3, 1) := by decide +kernel
theorem dL_law_932 : decode cL_law 932 = .ok (.iconst 2, 1) := by decide +kernel
theorem dL_law_933 : decode cL_law 933 = .ok (.iadd, 1) := by decide +kernel
theorem dL_law_934 : decode cL_law 934 = .ok (.iaload, 1) := by decide +kernel
theorem dL_law_935 : decode cL_law 935 = .ok (.aload_n 0, 1) := by decide +kernel
theorem dL_law_936 : decode cL_law 936 = .ok (.iload_n 3, 1) := by decide +kernel
theorem dL_law_937 : decode cL_law 937 = .ok (.iconst 3, 1) := by decide +kernel
theorem dL_law_938 : decode cL_law 938 = .ok (.iadd, 1) := by decide +kernel
theorem dL_law_939 : decode cL_law 939 = .ok (.iaload, 1) := by decide +kernel
theorem dL_law_940 : decode cL_law 940 = .ok (.invokevirtual 131, 3) := by decide +kernel
theorem dL_law_943 : decode cL_law 943 = .ok (.if_icmp .eq 175, 3) := by decide +kernel
theorem dL_law_946 : decode cL_law 946 = .ok (.iconst 0, 1) := by decide +kernel
theorem dL_law_947 : decode cL_law 947 = .ok (.ireturn, 1) := by decide +kernel
theorem dL_law_948 : decode cL_law 948 = .ok (.aload_n 1, 1) := by decide +kernel
theorem dL_law_949 : decode cL_law 949 = .ok (.aload_n 0, 1) := by decide +kernel
theorem dL_law_950 : decode cL_law 950 = .ok (.iload_n 3, 1) := by decide +kernel
theorem dL_law_951 : decode cL_law 951 = .ok (.iconst 1, 1) := by decide +kernel
theorem dL_law_952 : decode cL_law 952 = .ok (.iadd, 1) := by decide +kernel
theorem dL_law_953 : decode cL_law 953 = .ok (.iaload, 1) := by decide +kernel
theorem dL_law_954 : decode cL_law 954 = .ok (.aload_n 0, 1) := by decide +kernel
theorem dL_law_955 : decode cL_law 955 = .ok (.iload_n 3, 1) := by decide +kernel
theorem dL_law_956 : decode cL_law 956 = .ok (.iconst 2, 1) := by decide +kernel
theorem dL_law_957 : decode cL_law 957 = .ok (.iadd, 1) := by decide +kernel
theorem dL_law_958 : decode cL_law 958 = .ok (.iaload, 1) := by decide +kernel
theorem dL_law_959 : decode cL_law 959 = .ok (.aload_n 0, 1) := by decide +kernel
theorem dL_law_960 : decode cL_law 960 = .ok (.iload_n 3, 1) := by decide +kernel
theorem dL_law_961 : decode cL_law 961 = .ok (.iconst 3, 1) := by decide +kernel
theorem dL_law_962 : decode cL_law 962 = .ok (.iadd, 1) := by decide +kernel
theorem dL_law_963 : decode cL_law 963 = .ok (.iaload, 1) := by decide +kernel
theorem dL_law_964 : decode cL_law 964 = .ok (.i2l, 1) := by decide +kernel
theorem dL_law_965 : decode cL_law 965 = .ok (.bipush 32, 2) := by decide +kernel
theorem dL_law_967 : decode cL_law 967 = .ok (.lshl, 1) := by decide +kernel
theorem dL_law_968 : decode cL_law 968 = .ok (.aload_n 0, 1) := by decide +kernel
theorem dL_law_969 : decode cL_law 969 = .ok (.iload_n 3, 1) := by decide +kernel
theorem dL_law_970 : decode cL_law 970 = .ok (.iconst 4, 1) := by decide +kernel
theorem dL_law_971 : decode cL_law 971 = .ok (.iadd, 1) := by decide +kernel
theorem dL_law_972 : decode cL_law 972 = .ok (.iaload, 1) := by decide +kernel
theorem dL_law_973 : decode cL_law 973 = .ok (.i2l, 1) := by decide +kernel
theorem dL_law_974 : decode cL_law 974 = .ok (.ldc2_w 132, 3) := by decide +kernel
theorem dL_law_977 : decode cL_law 977 = .ok (.land, 1) := by decide +kernel
theorem dL_law_978 : decode cL_law 978 = .ok (.lor, 1) := by decide +kernel
theorem dL_law_979 : decode cL_law 979 = .ok (.invokevirtual 134, 3) := by decide +kernel
theorem dL_law_982 : decode cL_law 982 = .ok (.aload_n 2, 1) := by decide +kernel
theorem dL_law_983 : decode cL_law 983 = .ok (.aload_n 0, 1) := by decide +kernel
theorem dL_law_984 : decode cL_law 984 = .ok (.iload_n 3, 1) := by decide +kernel
theorem dL_law_985 : decode cL_law 985 = .ok (.iconst 1, 1) := by decide +kernel
theorem dL_law_986 : decode cL_law 986 = .ok (.iadd, 1) := by decide +kernel
theorem dL_law_987 : decode cL_law 987 = .ok (.iaload, 1) := by decide +kernel
theorem dL_law_988 : decode cL_law 988 = .ok (.aload_n 0, 1) := by decide +kernel
theorem dL_law_989 : decode cL_law 989 = .ok (.iload_n 3, 1) := by decide +kernel
theorem dL_law_990 : decode cL_law 990 = .ok (.iconst 2, 1) := by decide +kernel
theorem dL_law_991 : decode cL_law 991 = .ok (.iadd, 1) := by decide +kernel
theorem dL_law_992 : decode cL_law 992 = .ok (.iaload, 1) := by decide +kernel
theorem dL_law_993 : decode cL_law 993 = .ok (.aload_n 0, 1) := by decide +kernel
theorem dL_law_994 : decode cL_law 994 = .ok (.iload_n 3, 1) := by decide +kernel
theorem dL_law_995 : decode cL_law 995 = .ok (.iconst 3, 1) := by decide +kernel
theorem dL_law_996 : decode cL_law 996 = .ok (.iadd, 1) := by decide +kernel
theorem dL_law_997 : decode cL_law 997 = .ok (.iaload, 1) := by decide +kernel
theorem dL_law_998 : decode cL_law 998 = .ok (.i2l, 1) := by decide +kernel
theorem dL_law_999 : decode cL_law 999 = .ok (.bipush 32, 2) := by decide +kernel
theorem dL_law_1001 : decode cL_law 1001 = .ok (.lshl, 1) := by decide +kernel
theorem dL_law_1002 : decode cL_law 1002 = .ok (.aload_n 0, 1) := by decide +kernel
theorem dL_law_1003 : decode cL_law 1003 = .ok (.iload_n 3, 1) := by decide +kernel
theorem dL_law_1004 : decode cL_law 1004 = .ok (.iconst 4, 1) := by decide +kernel
theorem dL_law_1005 : decode cL_law 1005 = .ok (.iadd, 1) := by decide +kernel
theorem dL_law_1006 : decode cL_law 1006 = .ok (.iaload, 1) := by decide +kernel
theorem dL_law_1007 : decode cL_law 1007 = .ok (.i2l, 1) := by decide +kernel
theorem dL_law_1008 : decode cL_law 1008 = .ok (.ldc2_w 132, 3) := by decide +kernel
theorem dL_law_1011 : decode cL_law 1011 = .ok (.land, 1) := by decide +kernel
theorem dL_law_1012 : decode cL_law 1012 = .ok (.lor, 1) := by decide +kernel
theorem dL_law_1013 : decode cL_law 1013 = .ok (.invokevirtual 138, 3) := by decide +kernel
theorem dL_law_1016 : decode cL_law 1016 = .ok (.if_icmp .eq 102, 3) := by decide +kernel
theorem dL_law_1019 : decode cL_law 1019 = .ok (.iconst 0, 1) := by decide +kernel
theorem dL_law_1020 : decode cL_law 1020 = .ok (.ireturn, 1) := by decide +kernel
theorem dL_law_1021 : decode cL_law 1021 = .ok (.aload_n 1, 1) := by decide +kernel
theorem dL_law_1022 : decode cL_law 1022 = .ok (.aload_n 0, 1) := by decide +kernel
theorem dL_law_1023 : decode cL_law 1023 = .ok (.iload_n 3, 1) := by decide +kernel
theorem dL_law_1024 : decode cL_law 1024 = .ok (.iconst 1, 1) := by decide +kernel
theorem dL_law_1025 : decode cL_law 1025 = .ok (.iadd, 1) := by decide +kernel
theorem dL_law_1026 : decode cL_law 1026 = .ok (.iaload, 1) := by decide +kernel
theorem dL_law_1027 : decode cL_law 1027 = .ok (.aload_n 0, 1) := by decide +kernel
theorem dL_law_1028 : decode cL_law 1028 = .ok (.iload_n 3, 1) := by decide +kernel
theorem dL_law_1029 : decode cL_law 1029 = .ok (.iconst 2, 1) := by decide +kernel
theorem dL_law_1030 : decode cL_law 1030 = .ok (.iadd, 1) := by decide +kernel
theorem dL_law_1031 : decode cL_law 1031 = .ok (.iaload, 1) := by decide +kernel
theorem dL_law_1032 : decode cL_law 1032 = .ok (.invokevirtual 139, 3) := by decide +kernel
theorem dL_law_1035 : decode cL_law 1035 = .ok (.aload_n 2, 1) := by decide +kernel
theorem dL_law_1036 : decode cL_law 1036 = .ok (.aload_n 0, 1) := by decide +kernel
theorem dL_law_1037 : decode cL_law 1037 = .ok (.iload_n 3, 1) := by decide +kernel
theorem dL_law_1038 : decode cL_law 1038 = .ok (.iconst 1, 1) := by decide +kernel
theorem dL_law_1039 : decode cL_law 1039 = .ok (.iadd, 1) := by decide +kernel
theorem dL_law_1040 : decode cL_law 1040 = .ok (.iaload, 1) := by decide +kernel
theorem dL_law_1041 : decode cL_law 1041 = .ok (.aload_n 0, 1) := by decide +kernel
theorem dL_law_1042 : decode cL_law 1042 = .ok (.iload_n 3, 1) := by decide +kernel
theorem dL_law_1043 : decode cL_law 1043 = .ok (.iconst 2, 1) := by decide +kernel
theorem dL_law_1044 : decode cL_law 1044 = .ok (.iadd, 1) := by decide +kernel
theorem dL_law_1045 : decode cL_law 1045 = .ok (.iaload, 1) := by decide +kernel
theorem dL_law_1046 : decode cL_law 1046 = .ok (.invokevirtual 142, 3) := by decide +kernel
theorem dL_law_1049 : decode cL_law 1049 = .ok (.lcmp, 1) := by decide +kernel
theorem dL_law_1050 : decode cL_law 1050 = .ok (.ifCond .eq 68, 3) := by decide +kernel
theorem dL_law_1053 : decode cL_law 1053 = .ok (.iconst 0, 1) := by decide +kernel
theorem dL_law_1054 : decode cL_law 1054 = .ok (.ireturn, 1) := by decide +kernel
theorem dL_law_1055 : decode cL_law 1055 = .ok (.aload_n 1, 1) := by decide +kernel
theorem dL_law_1056 : decode cL_law 1056 = .ok (.aload_n 0, 1) := by decide +kernel
theorem dL_law_1057 : decode cL_law 1057 = .ok (.iload_n 3, 1) := by decide +kernel
theorem dL_law_1058 : decode cL_law 1058 = .ok (.iconst 1, 1) := by decide +kernel
theorem dL_law_1059 : decode cL_law 1059 = .ok (.iadd, 1) := by decide +kernel
theorem dL_law_1060 : decode cL_law 1060 = .ok (.iaload, 1) := by decide +kernel
theorem dL_law_1061 : decode cL_law 1061 = .ok (.aload_n 0, 1) := by decide +kernel
theorem dL_law_1062 : decode cL_law 1062 = .ok (.iload_n 3, 1) := by decide +kernel
theorem dL_law_1063 : decode cL_law 1063 = .ok (.iconst 2, 1) := by decide +kernel
theorem dL_law_1064 : decode cL_law 1064 = .ok (.iadd, 1) := by decide +kernel
theorem dL_law_1065 : decode cL_law 1065 = .ok (.iaload, 1) := by decide +kernel
theorem dL_law_1066 : decode cL_law 1066 = .ok (.aload_n 0, 1) := by decide +kernel
theorem dL_law_1067 : decode cL_law 1067 = .ok (.iload_n 3, 1) := by decide +kernel
theorem dL_law_1068 : decode cL_law 1068 = .ok (.iconst 3, 1) := by decide +kernel
theorem dL_law_1069 : decode cL_law 1069 = .ok (.iadd, 1) := by decide +kernel
theorem dL_law_1070 : decode cL_law 1070 = .ok (.iaload, 1) := by decide +kernel
theorem dL_law_1071 : decode cL_law 1071 = .ok (.aload_n 0, 1) := by decide +kernel
theorem dL_law_1072 : decode cL_law 1072 = .ok (.iload_n 3, 1) := by decide +kernel
theorem dL_law_1073 : decode cL_law 1073 = .ok (.iconst 4, 1) := by decide +kernel
theorem dL_law_1074 : decode cL_law 1074 = .ok (.iadd, 1) := by decide +kernel
theorem dL_law_1075 : decode cL_law 1075 = .ok (.iaload, 1) := by decide +kernel
theorem dL_law_1076 : decode cL_law 1076 = .ok (.aload_n 0, 1) := by decide +kernel
theorem dL_law_1077 : decode cL_law 1077 = .ok (.iload_n 3, 1) := by decide +kernel
theorem dL_law_1078 : decode cL_law 1078 = .ok (.iconst 5, 1) := by decide +kernel
theorem dL_law_1079 : decode cL_law 1079 = .ok (.iadd, 1) := by decide +kernel
theorem dL_law_1080 : decode cL_law 1080 = .ok (.iaload, 1) := by decide +kernel
theorem dL_law_1081 : decode cL_law 1081 = .ok (.invokevirtual 143, 3) := by decide +kernel
theorem dL_law_1084 : decode cL_law 1084 = .ok (.aload_n 2, 1) := by decide +kernel
theorem dL_law_1085 : decode cL_law 1085 = .ok (.aload_n 0, 1) := by decide +kernel
theorem dL_law_1086 : decode cL_law 1086 = .ok (.iload_n 3, 1) := by decide +kernel
theorem dL_law_1087 : decode cL_law 1087 = .ok (.iconst 1, 1) := by decide +kernel
theorem dL_law_1088 : decode cL_law 1088 = .ok (.iadd, 1) := by decide +kernel
theorem dL_law_1089 : decode cL_law 1089 = .ok (.iaload, 1) := by decide +kernel
theorem dL_law_1090 : decode cL_law 1090 = .ok (.aload_n 0, 1) := by decide +kernel
theorem dL_law_1091 : decode cL_law 1091 = .ok (.iload_n 3, 1) := by decide +kernel
theorem dL_law_1092 : decode cL_law 1092 = .ok (.iconst 2, 1) := by decide +kernel
theorem dL_law_1093 : decode cL_law 1093 = .ok (.iadd, 1) := by decide +kernel
theorem dL_law_1094 : decode cL_law 1094 = .ok (.iaload, 1) := by decide +kernel
theorem dL_law_1095 : decode cL_law 1095 = .ok (.aload_n 0, 1) := by decide +kernel
theorem dL_law_1096 : decode cL_law 1096 = .ok (.iload_n 3, 1) := by decide +kernel
theorem dL_law_1097 : decode cL_law 1097 = .ok (.iconst 3, 1) := by decide +kernel
theorem dL_law_1098 : decode cL_law 1098 = .ok (.iadd, 1) := by decide +kernel
theorem dL_law_1099 : decode cL_law 1099 = .ok (.iaload, 1) := by decide +kernel
theorem dL_law_1100 : decode cL_law 1100 = .ok (.aload_n 0, 1) := by decide +kernel
theorem dL_law_1101 : decode cL_law 1101 = .ok (.iload_n 3, 1) := by decide +kernel
theorem dL_law_1102 : decode cL_law 1102 = .ok (.iconst 4, 1) := by decide +kernel
theorem dL_law_1103 : decode cL_law 1103 = .ok (.iadd, 1) := by decide +kernel
theorem dL_law_1104 : decode cL_law 1104 = .ok (.iaload, 1) := by decide +kernel
theorem dL_law_1105 : decode cL_law 1105 = .ok (.aload_n 0, 1) := by decide +kernel
theorem dL_law_1106 : decode cL_law 1106 = .ok (.iload_n 3, 1) := by decide +kernel
theorem dL_law_1107 : decode cL_law 1107 = .ok (.iconst 5, 1) := by decide +kernel
theorem dL_law_1108 : decode cL_law 1108 = .ok (.iadd, 1) := by decide +kernel
theorem dL_law_1109 : decode cL_law 1109 = .ok (.iaload, 1) := by decide +kernel
theorem dL_law_1110 : decode cL_law 1110 = .ok (.invokevirtual 147, 3) := by decide +kernel
theorem dL_law_1113 : decode cL_law 1113 = .ok (.if_icmp .eq 5, 3) := by decide +kernel
theorem dL_law_1116 : decode cL_law 1116 = .ok (.iconst 0, 1) := by decide +kernel
theorem dL_law_1117 : decode cL_law 1117 = .ok (.ireturn, 1) := by decide +kernel
theorem dL_law_1118 : decode cL_law 1118 = .ok (.iinc 3 6, 3) := by decide +kernel
theorem dL_law_1121 : decode cL_law 1121 = .ok (.goto (-1103), 3) := by decide +kernel
theorem dL_law_1124 : decode cL_law 1124 = .ok (.iconst 1, 1) := by decide +kernel
theorem dL_law_1125 : decode cL_law 1125 = .ok (.ireturn, 1) := by decide +kernel
