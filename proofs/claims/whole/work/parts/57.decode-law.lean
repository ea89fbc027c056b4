/-! DECODE ROWS (by program) -/
theorem dL_topic_0 : decode cL_topic 0 = .ok (.aload_n 0, 1) := by decide +kernel
theorem dL_topic_1 : decode cL_topic 1 = .ok (.iload_n 1, 1) := by decide +kernel
theorem dL_topic_2 : decode cL_topic 2 = .ok (.iload_n 2, 1) := by decide +kernel
theorem dL_topic_3 : decode cL_topic 3 = .ok (.iload_n 3, 1) := by decide +kernel
theorem dL_topic_4 : decode cL_topic 4 = .ok (.iload 4, 2) := by decide +kernel
theorem dL_topic_6 : decode cL_topic 6 = .ok (.iload 5, 2) := by decide +kernel
theorem dL_topic_8 : decode cL_topic 8 = .ok (.invokevirtual 7, 3) := by decide +kernel
theorem dL_topic_11 : decode cL_topic 11 = .ok (.goto 11, 3) := by decide +kernel
theorem dL_topic_14 : decode cL_topic 14 = .ok (.astore 6, 2) := by decide +kernel
theorem dL_topic_16 : decode cL_topic 16 = .ok (.iconst 1, 1) := by decide +kernel
theorem dL_topic_17 : decode cL_topic 17 = .ok (.ireturn, 1) := by decide +kernel
theorem dL_topic_18 : decode cL_topic 18 = .ok (.astore 6, 2) := by decide +kernel
theorem dL_topic_20 : decode cL_topic 20 = .ok (.iconst 2, 1) := by decide +kernel
theorem dL_topic_21 : decode cL_topic 21 = .ok (.ireturn, 1) := by decide +kernel
theorem dL_topic_22 : decode cL_topic 22 = .ok (.iconst 0, 1) := by decide +kernel
theorem dL_topic_23 : decode cL_topic 23 = .ok (.ireturn, 1) := by decide +kernel
theorem dL_open_0 : decode cL_open 0 = .ok (.aload_n 3, 1) := by decide +kernel
theorem dL_open_1 : decode cL_open 1 = .ok (.iconst 0, 1) := by decide +kernel
theorem dL_open_2 : decode cL_open 2 = .ok (.aload_n 0, 1) := by decide +kernel
theorem dL_open_3 : decode cL_open 3 = .ok (.iload_n 1, 1) := by decide +kernel
theorem dL_open_4 : decode cL_open 4 = .ok (.iload_n 2, 1) := by decide +kernel
theorem dL_open_5 : decode cL_open 5 = .ok (.invokevirtual 17, 3) := by decide +kernel
theorem dL_open_8 : decode cL_open 8 = .ok (.i2l, 1) := by decide +kernel
theorem dL_open_9 : decode cL_open 9 = .ok (.lastore, 1) := by decide +kernel
theorem dL_open_10 : decode cL_open 10 = .ok (.goto 15, 3) := by decide +kernel
theorem dL_open_13 : decode cL_open 13 = .ok (.astore 4, 2) := by decide +kernel
theorem dL_open_15 : decode cL_open 15 = .ok (.iconst 1, 1) := by decide +kernel
theorem dL_open_16 : decode cL_open 16 = .ok (.ireturn, 1) := by decide +kernel
theorem dL_open_17 : decode cL_open 17 = .ok (.astore 4, 2) := by decide +kernel
theorem dL_open_19 : decode cL_open 19 = .ok (.iconst 2, 1) := by decide +kernel
theorem dL_open_20 : decode cL_open 20 = .ok (.ireturn, 1) := by decide +kernel
theorem dL_open_21 : decode cL_open 21 = .ok (.astore 4, 2) := by decide +kernel
theorem dL_open_23 : decode cL_open 23 = .ok (.iconst 3, 1) := by decide +kernel
theorem dL_open_24 : decode cL_open 24 = .ok (.ireturn, 1) := by decide +kernel
theorem dL_open_25 : decode cL_open 25 = .ok (.iconst 0, 1) := by decide +kernel
theorem dL_open_26 : decode cL_open 26 = .ok (.ireturn, 1) := by decide +kernel
theorem dL_produce_0 : decode cL_produce 0 = .ok (.aload 6, 2) := by decide +kernel
theorem dL_produce_2 : decode cL_produce 2 = .ok (.iconst 0, 1) := by decide +kernel
theorem dL_produce_3 : decode cL_produce 3 = .ok (.aload_n 0, 1) := by decide +kernel
theorem dL_produce_4 : decode cL_produce 4 = .ok (.iload_n 1, 1) := by decide +kernel
theorem dL_produce_5 : decode cL_produce 5 = .ok (.iload_n 2, 1) := by decide +kernel
theorem dL_produce_6 : decode cL_produce 6 = .ok (.iload_n 3, 1) := by decide +kernel
theorem dL_produce_7 : decode cL_produce 7 = .ok (.iload 4, 2) := by decide +kernel
theorem dL_produce_9 : decode cL_produce 9 = .ok (.iload 5, 2) := by decide +kernel
theorem dL_produce_11 : decode cL_produce 11 = .ok (.invokevirtual 23, 3) := by decide +kernel
theorem dL_produce_14 : decode cL_produce 14 = .ok (.i2l, 1) := by decide +kernel
theorem dL_produce_15 : decode cL_produce 15 = .ok (.lastore, 1) := by decide +kernel
theorem dL_produce_16 : decode cL_produce 16 = .ok (.goto 19, 3) := by decide +kernel
theorem dL_produce_19 : decode cL_produce 19 = .ok (.astore 7, 2) := by decide +kernel
theorem dL_produce_21 : decode cL_produce 21 = .ok (.iconst 1, 1) := by decide +kernel
theorem dL_produce_22 : decode cL_produce 22 = .ok (.ireturn, 1) := by decide +kernel
theorem dL_produce_23 : decode cL_produce 23 = .ok (.astore 7, 2) := by decide +kernel
theorem dL_produce_25 : decode cL_produce 25 = .ok (.iconst 2, 1) := by decide +kernel
theorem dL_produce_26 : decode cL_produce 26 = .ok (.ireturn, 1) := by decide +kernel
theorem dL_produce_27 : decode cL_produce 27 = .ok (.astore 7, 2) := by decide +kernel
theorem dL_produce_29 : decode cL_produce 29 = .ok (.iconst 3, 1) := by decide +kernel
theorem dL_produce_30 : decode cL_produce 30 = .ok (.ireturn, 1) := by decide +kernel
theorem dL_produce_31 : decode cL_produce 31 = .ok (.astore 7, 2) := by decide +kernel
theorem dL_produce_33 : decode cL_produce 33 = .ok (.iconst 4, 1) := by decide +kernel
theorem dL_produce_34 : decode cL_produce 34 = .ok (.ireturn, 1) := by decide +kernel
theorem dL_produce_35 : decode cL_produce 35 = .ok (.iconst 0, 1) := by decide +kernel
theorem dL_produce_36 : decode cL_produce 36 = .ok (.ireturn, 1) := by decide +kernel
theorem dL_begin_0 : decode cL_begin 0 = .ok (.aload_n 0, 1) := by decide +kernel
theorem dL_begin_1 : decode cL_begin 1 = .ok (.iload_n 1, 1) := by decide +kernel
theorem dL_begin_2 : decode cL_begin 2 = .ok (.invokevirtual 29, 3) := by decide +kernel
theorem dL_begin_5 : decode cL_begin 5 = .ok (.goto 15, 3) := by decide +kernel
theorem dL_begin_8 : decode cL_begin 8 = .ok (.astore_n 2, 1) := by decide +kernel
theorem dL_begin_9 : decode cL_begin 9 = .ok (.iconst 1, 1) := by decide +kernel
theorem dL_begin_10 : decode cL_begin 10 = .ok (.ireturn, 1) := by decide +kernel
theorem dL_begin_11 : decode cL_begin 11 = .ok (.astore_n 2, 1) := by decide +kernel
theorem dL_begin_12 : decode cL_begin 12 = .ok (.iconst 2, 1) := by decide +kernel
theorem dL_begin_13 : decode cL_begin 13 = .ok (.ireturn, 1) := by decide +kernel
theorem dL_begin_14 : decode cL_begin 14 = .ok (.astore_n 2, 1) := by decide +kernel
theorem dL_begin_15 : decode cL_begin 15 = .ok (.iconst 3, 1) := by decide +kernel
theorem dL_begin_16 : decode cL_begin 16 = .ok (.ireturn, 1) := by decide +kernel
theorem dL_begin_17 : decode cL_begin 17 = .ok (.astore_n 2, 1) := by decide +kernel
theorem dL_begin_18 : decode cL_begin 18 = .ok (.iconst 4, 1) := by decide +kernel
theorem dL_begin_19 : decode cL_begin 19 = .ok (.ireturn, 1) := by decide +kernel
theorem dL_begin_20 : decode cL_begin 20 = .ok (.iconst 0, 1) := by decide +kernel
theorem dL_begin_21 : decode cL_begin 21 = .ok (.ireturn, 1) := by decide +kernel
theorem dL_end_0 : decode cL_end 0 = .ok (.aload_n 3, 1) := by decide +kernel
theorem dL_end_1 : decode cL_end 1 = .ok (.iconst 0, 1) := by decide +kernel
theorem dL_end_2 : decode cL_end 2 = .ok (.aload_n 0, 1) := by decide +kernel
theorem dL_end_3 : decode cL_end 3 = .ok (.iload_n 1, 1) := by decide +kernel
theorem dL_end_4 : decode cL_end 4 = .ok (.iload_n 2, 1) := by decide +kernel
theorem dL_end_5 : decode cL_end 5 = .ok (.invokevirtual 33, 3) := by decide +kernel
theorem dL_end_8 : decode cL_end 8 = .ok (.i2l, 1) := by decide +kernel
theorem dL_end_9 : decode cL_end 9 = .ok (.lastore, 1) := by decide +kernel
theorem dL_end_10 : decode cL_end 10 = .ok (.goto 19, 3) := by decide +kernel
theorem dL_end_13 : decode cL_end 13 = .ok (.astore 4, 2) := by decide +kernel
theorem dL_end_15 : decode cL_end 15 = .ok (.iconst 1, 1) := by decide +kernel
theorem dL_end_16 : decode cL_end 16 = .ok (.ireturn, 1) := by decide +kernel
theorem dL_end_17 : decode cL_end 17 = .ok (.astore 4, 2) := by decide +kernel
theorem dL_end_19 : decode cL_end 19 = .ok (.iconst 2, 1) := by decide +kernel
theorem dL_end_20 : decode cL_end 20 = .ok (.ireturn, 1) := by decide +kernel
theorem dL_end_21 : decode cL_end 21 = .ok (.astore 4, 2) := by decide +kernel
theorem dL_end_23 : decode cL_end 23 = .ok (.iconst 3, 1) := by decide +kernel
theorem dL_end_24 : decode cL_end 24 = .ok (.ireturn, 1) := by decide +kernel
theorem dL_end_25 : decode cL_end 25 = .ok (.astore 4, 2) := by decide +kernel
theorem dL_end_27 : decode cL_end 27 = .ok (.iconst 4, 1) := by decide +kernel
theorem dL_end_28 : decode cL_end 28 = .ok (.ireturn, 1) := by decide +kernel
theorem dL_end_29 : decode cL_end 29 = .ok (.iconst 0, 1) := by decide +kernel
theorem dL_end_30 : decode cL_end 30 = .ok (.ireturn, 1) := by decide +kernel
theorem dL_fetch_0 : decode cL_fetch 0 = .ok (.aload 4, 2) := by decide +kernel
theorem dL_fetch_2 : decode cL_fetch 2 = .ok (.iconst 0, 1) := by decide +kernel
theorem dL_fetch_3 : decode cL_fetch 3 = .ok (.aload_n 0, 1) := by decide +kernel
theorem dL_fetch_4 : decode cL_fetch 4 = .ok (.iload_n 1, 1) := by decide +kernel
theorem dL_fetch_5 : decode cL_fetch 5 = .ok (.iload_n 2, 1) := by decide +kernel
theorem dL_fetch_6 : decode cL_fetch 6 = .ok (.iload_n 3, 1) := by decide +kernel
theorem dL_fetch_7 : decode cL_fetch 7 = .ok (.invokevirtual 37, 3) := by decide +kernel
theorem dL_fetch_10 : decode cL_fetch 10 = .ok (.i2l, 1) := by decide +kernel
theorem dL_fetch_11 : decode cL_fetch 11 = .ok (.lastore, 1) := by decide +kernel
theorem dL_fetch_12 : decode cL_fetch 12 = .ok (.goto 15, 3) := by decide +kernel
theorem dL_fetch_15 : decode cL_fetch 15 = .ok (.astore 5, 2) := by decide +kernel
theorem dL_fetch_17 : decode cL_fetch 17 = .ok (.iconst 1, 1) := by decide +kernel
theorem dL_fetch_18 : decode cL_fetch 18 = .ok (.ireturn, 1) := by decide +kernel
theorem dL_fetch_19 : decode cL_fetch 19 = .ok (.astore 5, 2) := by decide +kernel
theorem dL_fetch_21 : decode cL_fetch 21 = .ok (.iconst 2, 1) := by decide +kernel
theorem dL_fetch_22 : decode cL_fetch 22 = .ok (.ireturn, 1) := by decide +kernel
theorem dL_fetch_23 : decode cL_fetch 23 = .ok (.astore 5, 2) := by decide +kernel
theorem dL_fetch_25 : decode cL_fetch 25 = .ok (.iconst 3, 1) := by decide +kernel
theorem dL_fetch_26 : decode cL_fetch 26 = .ok (.ireturn, 1) := by decide +kernel
theorem dL_fetch_27 : decode cL_fetch 27 = .ok (.iconst 0, 1) := by decide +kernel
theorem dL_fetch_28 : decode cL_fetch 28 = .ok (.ireturn, 1) := by decide +kernel
theorem dL_told_0 : decode cL_told 0 = .ok (.aload 4, 2) := by decide +kernel
theorem dL_told_2 : decode cL_told 2 = .ok (.iconst 0, 1) := by decide +kernel
theorem dL_told_3 : decode cL_told 3 = .ok (.aload_n 0, 1) := by decide +kernel
theorem dL_told_4 : decode cL_told 4 = .ok (.iload_n 1, 1) := by decide +kernel
theorem dL_told_5 : decode cL_told 5 = .ok (.iload_n 2, 1) := by decide +kernel
theorem dL_told_6 : decode cL_told 6 = .ok (.iload_n 3, 1) := by decide +kernel
theorem dL_told_7 : decode cL_told 7 = .ok (.invokevirtual 43, 3) := by decide +kernel
theorem dL_told_10 : decode cL_told 10 = .ok (.i2l, 1) := by decide +kernel
theorem dL_told_11 : decode cL_told 11 = .ok (.lastore, 1) := by decide +kernel
theorem dL_told_12 : decode cL_told 12 = .ok (.goto 15, 3) := by decide +kernel
theorem dL_told_15 : decode cL_told 15 = .ok (.astore 5, 2) := by decide +kernel
theorem dL_told_17 : decode cL_told 17 = .ok (.iconst 1, 1) := by decide +kernel
theorem dL_told_18 : decode cL_told 18 = .ok (.ireturn, 1) := by decide +kernel
theorem dL_told_19 : decode cL_told 19 = .ok (.astore 5, 2) := by decide +kernel
theorem dL_told_21 : decode cL_told 21 = .ok (.iconst 2, 1) := by decide +kernel
theorem dL_told_22 : decode cL_told 22 = .ok (.ireturn, 1) := by decide +kernel
theorem dL_told_23 : decode cL_told 23 = .ok (.astore 5, 2) := by decide +kernel
theorem dL_told_25 : decode cL_told 25 = .ok (.iconst 3, 1) := by decide +kernel
theorem dL_told_26 : decode cL_told 26 = .ok (.ireturn, 1) := by decide +kernel
theorem dL_told_27 : decode cL_told 27 = .ok (.iconst 0, 1) := by decide +kernel
theorem dL_told_28 : decode cL_told 28 = .ok (.ireturn, 1) := by decide +kernel
theorem dL_compact_0 : decode cL_compact 0 = .ok (.aload_n 2, 1) := by decide +kernel
theorem dL_compact_1 : decode cL_compact 1 = .ok (.iconst 0, 1) := by decide +kernel
theorem dL_compact_2 : decode cL_compact 2 = .ok (.aload_n 0, 1) := by decide +kernel
theorem dL_compact_3 : decode cL_compact 3 = .ok (.iload_n 1, 1) := by decide +kernel
theorem dL_compact_4 : decode cL_compact 4 = .ok (.invokevirtual 47, 3) := by decide +kernel
theorem dL_compact_7 : decode cL_compact 7 = .ok (.i2l, 1) := by decide +kernel
theorem dL_compact_8 : decode cL_compact 8 = .ok (.lastore, 1) := by decide +kernel
theorem dL_compact_9 : decode cL_compact 9 = .ok (.goto 9, 3) := by decide +kernel
theorem dL_compact_12 : decode cL_compact 12 = .ok (.astore_n 3, 1) := by decide +kernel
theorem dL_compact_13 : decode cL_compact 13 = .ok (.iconst 1, 1) := by decide +kernel
theorem dL_compact_14 : decode cL_compact 14 = .ok (.ireturn, 1) := by decide +kernel
theorem dL_compact_15 : decode cL_compact 15 = .ok (.astore_n 3, 1) := by decide +kernel
theorem dL_compact_16 : decode cL_compact 16 = .ok (.iconst 2, 1) := by decide +kernel
theorem dL_compact_17 : decode cL_compact 17 = .ok (.ireturn, 1) := by decide +kernel
theorem dL_compact_18 : decode cL_compact 18 = .ok (.iconst 0, 1) := by decide +kernel
theorem dL_compact_19 : decode cL_compact 19 = .ok (.ireturn, 1) := by decide +kernel
theorem dL_join_0 : decode cL_join 0 = .ok (.aload 4, 2) := by decide +kernel
theorem dL_join_2 : decode cL_join 2 = .ok (.iconst 0, 1) := by decide +kernel
theorem dL_join_3 : decode cL_join 3 = .ok (.aload_n 0, 1) := by decide +kernel
theorem dL_join_4 : decode cL_join 4 = .ok (.iload_n 1, 1) := by decide +kernel
theorem dL_join_5 : decode cL_join 5 = .ok (.iload_n 2, 1) := by decide +kernel
theorem dL_join_6 : decode cL_join 6 = .ok (.iload_n 3, 1) := by decide +kernel
theorem dL_join_7 : decode cL_join 7 = .ok (.invokevirtual 51, 3) := by decide +kernel
theorem dL_join_10 : decode cL_join 10 = .ok (.i2l, 1) := by decide +kernel
theorem dL_join_11 : decode cL_join 11 = .ok (.lastore, 1) := by decide +kernel
theorem dL_join_12 : decode cL_join 12 = .ok (.goto 11, 3) := by decide +kernel
theorem dL_join_15 : decode cL_join 15 = .ok (.astore 5, 2) := by decide +kernel
theorem dL_join_17 : decode cL_join 17 = .ok (.iconst 1, 1) := by decide +kernel
theorem dL_join_18 : decode cL_join 18 = .ok (.ireturn, 1) := by decide +kernel
theorem dL_join_19 : decode cL_join 19 = .ok (.astore 5, 2) := by decide +kernel
theorem dL_join_21 : decode cL_join 21 = .ok (.iconst 2, 1) := by decide +kernel
theorem dL_join_22 : decode cL_join 22 = .ok (.ireturn, 1) := by decide +kernel
theorem dL_join_23 : decode cL_join 23 = .ok (.iconst 0, 1) := by decide +kernel
theorem dL_join_24 : decode cL_join 24 = .ok (.ireturn, 1) := by decide +kernel
theorem dL_leave_0 : decode cL_leave 0 = .ok (.aload_n 3, 1) := by decide +kernel
theorem dL_leave_1 : decode cL_leave 1 = .ok (.iconst 0, 1) := by decide +kernel
theorem dL_leave_2 : decode cL_leave 2 = .ok (.aload_n 0, 1) := by decide +kernel
theorem dL_leave_3 : decode cL_leave 3 = .ok (.iload_n 1, 1) := by decide +kernel
theorem dL_leave_4 : decode cL_leave 4 = .ok (.iload_n 2, 1) := by decide +kernel
theorem dL_leave_5 : decode cL_leave 5 = .ok (.invokevirtual 54, 3) := by decide +kernel
theorem dL_leave_8 : decode cL_leave 8 = .ok (.i2l, 1) := by decide +kernel
theorem dL_leave_9 : decode cL_leave 9 = .ok (.lastore, 1) := by decide +kernel
theorem dL_leave_10 : decode cL_leave 10 = .ok (.goto 11, 3) := by decide +kernel
theorem dL_leave_13 : decode cL_leave 13 = .ok (.astore 4, 2) := by decide +kernel
theorem dL_leave_15 : decode cL_leave 15 = .ok (.iconst 1, 1) := by decide +kernel
theorem dL_leave_16 : decode cL_leave 16 = .ok (.ireturn, 1) := by decide +kernel
theorem dL_leave_17 : decode cL_leave 17 = .ok (.astore 4, 2) := by decide +kernel
theorem dL_leave_19 : decode cL_leave 19 = .ok (.iconst 2, 1) := by decide +kernel
theorem dL_leave_20 : decode cL_leave 20 = .ok (.ireturn, 1) := by decide +kernel
theorem dL_leave_21 : decode cL_leave 21 = .ok (.iconst 0, 1) := by decide +kernel
theorem dL_leave_22 : decode cL_leave 22 = .ok (.ireturn, 1) := by decide +kernel
theorem dL_owner_0 : decode cL_owner 0 = .ok (.aload_n 3, 1) := by decide +kernel
theorem dL_owner_1 : decode cL_owner 1 = .ok (.iconst 0, 1) := by decide +kernel
theorem dL_owner_2 : decode cL_owner 2 = .ok (.aload_n 0, 1) := by decide +kernel
theorem dL_owner_3 : decode cL_owner 3 = .ok (.iload_n 1, 1) := by decide +kernel
theorem dL_owner_4 : decode cL_owner 4 = .ok (.iload_n 2, 1) := by decide +kernel
theorem dL_owner_5 : decode cL_owner 5 = .ok (.invokevirtual 57, 3) := by decide +kernel
theorem dL_owner_8 : decode cL_owner 8 = .ok (.i2l, 1) := by decide +kernel
theorem dL_owner_9 : decode cL_owner 9 = .ok (.lastore, 1) := by decide +kernel
theorem dL_owner_10 : decode cL_owner 10 = .ok (.goto 11, 3) := by decide +kernel
theorem dL_owner_13 : decode cL_owner 13 = .ok (.astore 4, 2) := by decide +kernel
theorem dL_owner_15 : decode cL_owner 15 = .ok (.iconst 1, 1) := by decide +kernel
theorem dL_owner_16 : decode cL_owner 16 = .ok (.ireturn, 1) := by decide +kernel
theorem dL_owner_17 : decode cL_owner 17 = .ok (.astore 4, 2) := by decide +kernel
theorem dL_owner_19 : decode cL_owner 19 = .ok (.iconst 2, 1) := by decide +kernel
theorem dL_owner_20 : decode cL_owner 20 = .ok (.ireturn, 1) := by decide +kernel
theorem dL_owner_21 : decode cL_owner 21 = .ok (.iconst 0, 1) := by decide +kernel
theorem dL_owner_22 : decode cL_owner 22 = .ok (.ireturn, 1) := by decide +kernel
theorem dL_poll_0 : decode cL_poll 0 = .ok (.aload 5, 2) := by decide +kernel
theorem dL_poll_2 : decode cL_poll 2 = .ok (.iconst 0, 1) := by decide +kernel
theorem dL_poll_3 : decode cL_poll 3 = .ok (.aload_n 0, 1) := by decide +kernel
theorem dL_poll_4 : decode cL_poll 4 = .ok (.iload_n 1, 1) := by decide +kernel
theorem dL_poll_5 : decode cL_poll 5 = .ok (.iload_n 2, 1) := by decide +kernel
theorem dL_poll_6 : decode cL_poll 6 = .ok (.iload_n 3, 1) := by decide +kernel
theorem dL_poll_7 : decode cL_poll 7 = .ok (.iload 4, 2) := by decide +kernel
theorem dL_poll_9 : decode cL_poll 9 = .ok (.invokevirtual 60, 3) := by decide +kernel
theorem dL_poll_12 : decode cL_poll 12 = .ok (.i2l, 1) := by decide +kernel
theorem dL_poll_13 : decode cL_poll 13 = .ok (.lastore, 1) := by decide +kernel
theorem dL_poll_14 : decode cL_poll 14 = .ok (.goto 15, 3) := by decide +kernel
theorem dL_poll_17 : decode cL_poll 17 = .ok (.astore 6, 2) := by decide +kernel
theorem dL_poll_19 : decode cL_poll 19 = .ok (.iconst 1, 1) := by decide +kernel
theorem dL_poll_20 : decode cL_poll 20 = .ok (.ireturn, 1) := by decide +kernel
theorem dL_poll_21 : decode cL_poll 21 = .ok (.astore 6, 2) := by decide +kernel
theorem dL_poll_23 : decode cL_poll 23 = .ok (.iconst 2, 1) := by decide +kernel
theorem dL_poll_24 : decode cL_poll 24 = .ok (.ireturn, 1) := by decide +kernel
theorem dL_poll_25 : decode cL_poll 25 = .ok (.astore 6, 2) := by decide +kernel
theorem dL_poll_27 : decode cL_poll 27 = .ok (.iconst 3, 1) := by decide +kernel
theorem dL_poll_28 : decode cL_poll 28 = .ok (.ireturn, 1) := by decide +kernel
theorem dL_poll_29 : decode cL_poll 29 = .ok (.iconst 0, 1) := by decide +kernel
theorem dL_poll_30 : decode cL_poll 30 = .ok (.ireturn, 1) := by decide +kernel
theorem dL_keep_0 : decode cL_keep 0 = .ok (.aload_n 0, 1) := by decide +kernel
theorem dL_keep_1 : decode cL_keep 1 = .ok (.iload_n 1, 1) := by decide +kernel
theorem dL_keep_2 : decode cL_keep 2 = .ok (.iload_n 2, 1) := by decide +kernel
theorem dL_keep_3 : decode cL_keep 3 = .ok (.iload_n 3, 1) := by decide +kernel
theorem dL_keep_4 : decode cL_keep 4 = .ok (.iload 4, 2) := by decide +kernel
theorem dL_keep_6 : decode cL_keep 6 = .ok (.iload 5, 2) := by decide +kernel
theorem dL_keep_8 : decode cL_keep 8 = .ok (.invokevirtual 64, 3) := by decide +kernel
theorem dL_keep_11 : decode cL_keep 11 = .ok (.goto 11, 3) := by decide +kernel
theorem dL_keep_14 : decode cL_keep 14 = .ok (.astore 6, 2) := by decide +kernel
theorem dL_keep_16 : decode cL_keep 16 = .ok (.iconst 1, 1) := by decide +kernel
theorem dL_keep_17 : decode cL_keep 17 = .ok (.ireturn, 1) := by decide +kernel
theorem dL_keep_18 : decode cL_keep 18 = .ok (.astore 6, 2) := by decide +kernel
theorem dL_keep_20 : decode cL_keep 20 = .ok (.iconst 2, 1) := by decide +kernel
theorem dL_keep_21 : decode cL_keep 21 = .ok (.ireturn, 1) := by decide +kernel
theorem dL_keep_22 : decode cL_keep 22 = .ok (.iconst 0, 1) := by decide +kernel
theorem dL_keep_23 : decode cL_keep 23 = .ok (.ireturn, 1) := by decide +kernel
theorem dL_log_0 : decode cL_log 0 = .ok (.aload_n 3, 1) := by decide +kernel
theorem dL_log_1 : decode cL_log 1 = .ok (.iconst 0, 1) := by decide +kernel
theorem dL_log_2 : decode cL_log 2 = .ok (.aload_n 0, 1) := by decide +kernel
theorem dL_log_3 : decode cL_log 3 = .ok (.iload_n 1, 1) := by decide +kernel
theorem dL_log_4 : decode cL_log 4 = .ok (.iload_n 2, 1) := by decide +kernel
theorem dL_log_5 : decode cL_log 5 = .ok (.invokevirtual 68, 3) := by decide +kernel
theorem dL_log_8 : decode cL_log 8 = .ok (.i2l, 1) := by decide +kernel
theorem dL_log_9 : decode cL_log 9 = .ok (.lastore, 1) := by decide +kernel
theorem dL_log_10 : decode cL_log 10 = .ok (.goto 7, 3) := by decide +kernel
theorem dL_log_13 : decode cL_log 13 = .ok (.astore 4, 2) := by decide +kernel
theorem dL_log_15 : decode cL_log 15 = .ok (.iconst 1, 1) := by decide +kernel
theorem dL_log_16 : decode cL_log 16 = .ok (.ireturn, 1) := by decide +kernel
theorem dL_log_17 : decode cL_log 17 = .ok (.iconst 0, 1) := by decide +kernel
theorem dL_log_18 : decode cL_log 18 = .ok (.ireturn, 1) := by decide +kernel
theorem dL_law_0 : decode code 0 = .ok (.new 8, 3) := by decide +kernel
theorem dL_law_3 : decode code 3 = .ok (.dup, 1) := by decide +kernel
theorem dL_law_4 : decode code 4 = .ok (.invokespecial 71, 3) := by decide +kernel
theorem dL_law_7 : decode code 7 = .ok (.astore_n 1, 1) := by decide +kernel
theorem dL_law_8 : decode code 8 = .ok (.new 72, 3) := by decide +kernel
theorem dL_law_11 : decode code 11 = .ok (.dup, 1) := by decide +kernel
theorem dL_law_12 : decode code 12 = .ok (.invokespecial 74, 3) := by decide +kernel
theorem dL_law_15 : decode code 15 = .ok (.astore_n 2, 1) := by decide +kernel
theorem dL_law_16 : decode code 16 = .ok (.iconst 1, 1) := by decide +kernel
theorem dL_law_17 : decode code 17 = .ok (.newarray .long, 2) := by decide +kernel
theorem dL_law_19 : decode code 19 = .ok (.astore_n 3, 1) := by decide +kernel
theorem dL_law_20 : decode code 20 = .ok (.iconst 0, 1) := by decide +kernel
theorem dL_law_21 : decode code 21 = .ok (.istore 4, 2) := by decide +kernel
theorem dL_law_23 : decode code 23 = .ok (.iload 4, 2) := by decide +kernel
theorem dL_law_25 : decode code 25 = .ok (.aload_n 0, 1) := by decide +kernel
theorem dL_law_26 : decode code 26 = .ok (.arraylength, 1) := by decide +kernel
theorem dL_law_27 : decode code 27 = .ok (.bipush 6, 2) := by decide +kernel
theorem dL_law_29 : decode code 29 = .ok (.isub, 1) := by decide +kernel
theorem dL_law_30 : decode code 30 = .ok (.if_icmp .gt 1201, 3) := by decide +kernel
theorem dL_law_33 : decode code 33 = .ok (.aload_n 0, 1) := by decide +kernel
theorem dL_law_34 : decode code 34 = .ok (.iload 4, 2) := by decide +kernel
theorem dL_law_36 : decode code 36 = .ok (.iaload, 1) := by decide +kernel
theorem dL_law_37 : decode code 37 = .ok (.bipush 15, 2) := by decide +kernel
theorem dL_law_39 : decode code 39 = .ok (.iand, 1) := by decide +kernel
theorem dL_law_116 : decode code 116 = .ok (.aload_n 1, 1) := by decide +kernel
theorem dL_law_117 : decode code 117 = .ok (.aload_n 0, 1) := by decide +kernel
theorem dL_law_118 : decode code 118 = .ok (.iload 4, 2) := by decide +kernel
theorem dL_law_120 : decode code 120 = .ok (.iconst 1, 1) := by decide +kernel
theorem dL_law_121 : decode code 121 = .ok (.iadd, 1) := by decide +kernel
theorem dL_law_122 : decode code 122 = .ok (.iaload, 1) := by decide +kernel
theorem dL_law_123 : decode code 123 = .ok (.aload_n 0, 1) := by decide +kernel
theorem dL_law_124 : decode code 124 = .ok (.iload 4, 2) := by decide +kernel
theorem dL_law_126 : decode code 126 = .ok (.iconst 2, 1) := by decide +kernel
theorem dL_law_127 : decode code 127 = .ok (.iadd, 1) := by decide +kernel
theorem dL_law_128 : decode code 128 = .ok (.iaload, 1) := by decide +kernel
theorem dL_law_129 : decode code 129 = .ok (.aload_n 0, 1) := by decide +kernel
theorem dL_law_130 : decode code 130 = .ok (.iload 4, 2) := by decide +kernel
theorem dL_law_132 : decode code 132 = .ok (.iconst 3, 1) := by decide +kernel
theorem dL_law_133 : decode code 133 = .ok (.iadd, 1) := by decide +kernel
theorem dL_law_134 : decode code 134 = .ok (.iaload, 1) := by decide +kernel
theorem dL_law_135 : decode code 135 = .ok (.aload_n 0, 1) := by decide +kernel
theorem dL_law_136 : decode code 136 = .ok (.iload 4, 2) := by decide +kernel
theorem dL_law_138 : decode code 138 = .ok (.iconst 4, 1) := by decide +kernel
theorem dL_law_139 : decode code 139 = .ok (.iadd, 1) := by decide +kernel
theorem dL_law_140 : decode code 140 = .ok (.iaload, 1) := by decide +kernel
theorem dL_law_141 : decode code 141 = .ok (.aload_n 0, 1) := by decide +kernel
theorem dL_law_142 : decode code 142 = .ok (.iload 4, 2) := by decide +kernel
theorem dL_law_144 : decode code 144 = .ok (.iconst 5, 1) := by decide +kernel
theorem dL_law_145 : decode code 145 = .ok (.iadd, 1) := by decide +kernel
theorem dL_law_146 : decode code 146 = .ok (.iaload, 1) := by decide +kernel
theorem dL_law_147 : decode code 147 = .ok (.ifCond .eq 7, 3) := by decide +kernel
theorem dL_law_150 : decode code 150 = .ok (.iconst 1, 1) := by decide +kernel
theorem dL_law_151 : decode code 151 = .ok (.goto 4, 3) := by decide +kernel
theorem dL_law_154 : decode code 154 = .ok (.iconst 0, 1) := by decide +kernel
theorem dL_law_155 : decode code 155 = .ok (.invokestatic 75, 3) := by decide +kernel
theorem dL_law_158 : decode code 158 = .ok (.istore 5, 2) := by decide +kernel
theorem dL_law_160 : decode code 160 = .ok (.aload_n 2, 1) := by decide +kernel
theorem dL_law_161 : decode code 161 = .ok (.aload_n 0, 1) := by decide +kernel
theorem dL_law_162 : decode code 162 = .ok (.iload 4, 2) := by decide +kernel
theorem dL_law_164 : decode code 164 = .ok (.iconst 1, 1) := by decide +kernel
theorem dL_law_165 : decode code 165 = .ok (.iadd, 1) := by decide +kernel
theorem dL_law_166 : decode code 166 = .ok (.iaload, 1) := by decide +kernel
theorem dL_law_167 : decode code 167 = .ok (.aload_n 0, 1) := by decide +kernel
theorem dL_law_168 : decode code 168 = .ok (.iload 4, 2) := by decide +kernel
theorem dL_law_170 : decode code 170 = .ok (.iconst 2, 1) := by decide +kernel
theorem dL_law_171 : decode code 171 = .ok (.iadd, 1) := by decide +kernel
theorem dL_law_172 : decode code 172 = .ok (.iaload, 1) := by decide +kernel
theorem dL_law_173 : decode code 173 = .ok (.aload_n 0, 1) := by decide +kernel
theorem dL_law_174 : decode code 174 = .ok (.iload 4, 2) := by decide +kernel
theorem dL_law_176 : decode code 176 = .ok (.iconst 3, 1) := by decide +kernel
theorem dL_law_177 : decode code 177 = .ok (.iadd, 1) := by decide +kernel
theorem dL_law_178 : decode code 178 = .ok (.iaload, 1) := by decide +kernel
theorem dL_law_179 : decode code 179 = .ok (.aload_n 0, 1) := by decide +kernel
theorem dL_law_180 : decode code 180 = .ok (.iload 4, 2) := by decide +kernel
theorem dL_law_182 : decode code 182 = .ok (.iconst 4, 1) := by decide +kernel
theorem dL_law_183 : decode code 183 = .ok (.iadd, 1) := by decide +kernel
theorem dL_law_184 : decode code 184 = .ok (.iaload, 1) := by decide +kernel
theorem dL_law_185 : decode code 185 = .ok (.aload_n 0, 1) := by decide +kernel
theorem dL_law_186 : decode code 186 = .ok (.iload 4, 2) := by decide +kernel
theorem dL_law_188 : decode code 188 = .ok (.iconst 5, 1) := by decide +kernel
theorem dL_law_189 : decode code 189 = .ok (.iadd, 1) := by decide +kernel
theorem dL_law_190 : decode code 190 = .ok (.iaload, 1) := by decide +kernel
theorem dL_law_191 : decode code 191 = .ok (.ifCond .eq 7, 3) := by decide +kernel
theorem dL_law_194 : decode code 194 = .ok (.iconst 1, 1) := by decide +kernel
theorem dL_law_195 : decode code 195 = .ok (.goto 4, 3) := by decide +kernel
theorem dL_law_198 : decode code 198 = .ok (.iconst 0, 1) := by decide +kernel
theorem dL_law_199 : decode code 199 = .ok (.invokevirtual 80, 3) := by decide +kernel
theorem dL_law_202 : decode code 202 = .ok (.aload_n 2, 1) := by decide +kernel
theorem dL_law_203 : decode code 203 = .ok (.invokevirtual 81, 3) := by decide +kernel
theorem dL_law_206 : decode code 206 = .ok (.iload 5, 2) := by decide +kernel
theorem dL_law_208 : decode code 208 = .ok (.if_icmp .eq 5, 3) := by decide +kernel
theorem dL_law_211 : decode code 211 = .ok (.iconst 0, 1) := by decide +kernel
theorem dL_law_212 : decode code 212 = .ok (.ireturn, 1) := by decide +kernel
theorem dL_law_213 : decode code 213 = .ok (.goto 1012, 3) := by decide +kernel
theorem dL_law_216 : decode code 216 = .ok (.aload_n 1, 1) := by decide +kernel
theorem dL_law_217 : decode code 217 = .ok (.aload_n 0, 1) := by decide +kernel
theorem dL_law_218 : decode code 218 = .ok (.iload 4, 2) := by decide +kernel
theorem dL_law_220 : decode code 220 = .ok (.iconst 1, 1) := by decide +kernel
theorem dL_law_221 : decode code 221 = .ok (.iadd, 1) := by decide +kernel
theorem dL_law_222 : decode code 222 = .ok (.iaload, 1) := by decide +kernel
theorem dL_law_223 : decode code 223 = .ok (.aload_n 0, 1) := by decide +kernel
theorem dL_law_224 : decode code 224 = .ok (.iload 4, 2) := by decide +kernel
theorem dL_law_226 : decode code 226 = .ok (.iconst 2, 1) := by decide +kernel
theorem dL_law_227 : decode code 227 = .ok (.iadd, 1) := by decide +kernel
theorem dL_law_228 : decode code 228 = .ok (.iaload, 1) := by decide +kernel
theorem dL_law_229 : decode code 229 = .ok (.aload_n 3, 1) := by decide +kernel
theorem dL_law_230 : decode code 230 = .ok (.invokestatic 85, 3) := by decide +kernel
theorem dL_law_233 : decode code 233 = .ok (.istore 5, 2) := by decide +kernel
theorem dL_law_235 : decode code 235 = .ok (.aload_n 2, 1) := by decide +kernel
theorem dL_law_236 : decode code 236 = .ok (.aload_n 0, 1) := by decide +kernel
theorem dL_law_237 : decode code 237 = .ok (.iload 4, 2) := by decide +kernel
theorem dL_law_239 : decode code 239 = .ok (.iconst 1, 1) := by decide +kernel
theorem dL_law_240 : decode code 240 = .ok (.iadd, 1) := by decide +kernel
theorem dL_law_241 : decode code 241 = .ok (.iaload, 1) := by decide +kernel
theorem dL_law_242 : decode code 242 = .ok (.aload_n 0, 1) := by decide +kernel
theorem dL_law_243 : decode code 243 = .ok (.iload 4, 2) := by decide +kernel
theorem dL_law_245 : decode code 245 = .ok (.iconst 2, 1) := by decide +kernel
theorem dL_law_246 : decode code 246 = .ok (.iadd, 1) := by decide +kernel
theorem dL_law_247 : decode code 247 = .ok (.iaload, 1) := by decide +kernel
theorem dL_law_248 : decode code 248 = .ok (.invokevirtual 88, 3) := by decide +kernel
theorem dL_law_251 : decode code 251 = .ok (.istore 6, 2) := by decide +kernel
theorem dL_law_253 : decode code 253 = .ok (.aload_n 2, 1) := by decide +kernel
theorem dL_law_254 : decode code 254 = .ok (.invokevirtual 81, 3) := by decide +kernel
theorem dL_law_257 : decode code 257 = .ok (.iload 5, 2) := by decide +kernel
theorem dL_law_259 : decode code 259 = .ok (.if_icmp .eq 5, 3) := by decide +kernel
theorem dL_law_262 : decode code 262 = .ok (.iconst 0, 1) := by decide +kernel
theorem dL_law_263 : decode code 263 = .ok (.ireturn, 1) := by decide +kernel
theorem dL_law_264 : decode code 264 = .ok (.iload 5, 2) := by decide +kernel
theorem dL_law_266 : decode code 266 = .ok (.ifCond .ne 15, 3) := by decide +kernel
theorem dL_law_269 : decode code 269 = .ok (.aload_n 3, 1) := by decide +kernel
theorem dL_law_270 : decode code 270 = .ok (.iconst 0, 1) := by decide +kernel
theorem dL_law_271 : decode code 271 = .ok (.laload, 1) := by decide +kernel
theorem dL_law_272 : decode code 272 = .ok (.iload 6, 2) := by decide +kernel
theorem dL_law_274 : decode code 274 = .ok (.i2l, 1) := by decide +kernel
theorem dL_law_275 : decode code 275 = .ok (.lcmp, 1) := by decide +kernel
theorem dL_law_276 : decode code 276 = .ok (.ifCond .eq 5, 3) := by decide +kernel
theorem dL_law_279 : decode code 279 = .ok (.iconst 0, 1) := by decide +kernel
theorem dL_law_280 : decode code 280 = .ok (.ireturn, 1) := by decide +kernel
theorem dL_law_281 : decode code 281 = .ok (.goto 944, 3) := by decide +kernel
theorem dL_law_284 : decode code 284 = .ok (.aload_n 1, 1) := by decide +kernel
theorem dL_law_285 : decode code 285 = .ok (.aload_n 0, 1) := by decide +kernel
theorem dL_law_286 : decode code 286 = .ok (.iload 4, 2) := by decide +kernel
theorem dL_law_288 : decode code 288 = .ok (.iconst 1, 1) := by decide +kernel
theorem dL_law_289 : decode code 289 = .ok (.iadd, 1) := by decide +kernel
theorem dL_law_290 : decode code 290 = .ok (.iaload, 1) := by decide +kernel
theorem dL_law_291 : decode code 291 = .ok (.aload_n 0, 1) := by decide +kernel
theorem dL_law_292 : decode code 292 = .ok (.iload 4, 2) := by decide +kernel
theorem dL_law_294 : decode code 294 = .ok (.iconst 2, 1) := by decide +kernel
theorem dL_law_295 : decode code 295 = .ok (.iadd, 1) := by decide +kernel
theorem dL_law_296 : decode code 296 = .ok (.iaload, 1) := by decide +kernel
theorem dL_law_297 : decode code 297 = .ok (.aload_n 0, 1) := by decide +kernel
theorem dL_law_298 : decode code 298 = .ok (.iload 4, 2) := by decide +kernel
theorem dL_law_300 : decode code 300 = .ok (.iconst 3, 1) := by decide +kernel
theorem dL_law_301 : decode code 301 = .ok (.iadd, 1) := by decide +kernel
theorem dL_law_302 : decode code 302 = .ok (.iaload, 1) := by decide +kernel
theorem dL_law_303 : decode code 303 = .ok (.aload_n 0, 1) := by decide +kernel
theorem dL_law_304 : decode code 304 = .ok (.iload 4, 2) := by decide +kernel
theorem dL_law_306 : decode code 306 = .ok (.iconst 4, 1) := by decide +kernel
theorem dL_law_307 : decode code 307 = .ok (.iadd, 1) := by decide +kernel
theorem dL_law_308 : decode code 308 = .ok (.iaload, 1) := by decide +kernel
theorem dL_law_309 : decode code 309 = .ok (.aload_n 0, 1) := by decide +kernel
theorem dL_law_310 : decode code 310 = .ok (.iload 4, 2) := by decide +kernel
theorem dL_law_312 : decode code 312 = .ok (.iconst 5, 1) := by decide +kernel
theorem dL_law_313 : decode code 313 = .ok (.iadd, 1) := by decide +kernel
theorem dL_law_314 : decode code 314 = .ok (.iaload, 1) := by decide +kernel
theorem dL_law_315 : decode code 315 = .ok (.aload_n 3, 1) := by decide +kernel
theorem dL_law_316 : decode code 316 = .ok (.invokestatic 89, 3) := by decide +kernel
theorem dL_law_319 : decode code 319 = .ok (.istore 5, 2) := by decide +kernel
theorem dL_law_321 : decode code 321 = .ok (.aload_n 2, 1) := by decide +kernel
theorem dL_law_322 : decode code 322 = .ok (.aload_n 0, 1) := by decide +kernel
theorem dL_law_323 : decode code 323 = .ok (.iload 4, 2) := by decide +kernel
theorem dL_law_325 : decode code 325 = .ok (.iconst 1, 1) := by decide +kernel
theorem dL_law_326 : decode code 326 = .ok (.iadd, 1) := by decide +kernel
theorem dL_law_327 : decode code 327 = .ok (.iaload, 1) := by decide +kernel
theorem dL_law_328 : decode code 328 = .ok (.aload_n 0, 1) := by decide +kernel
theorem dL_law_329 : decode code 329 = .ok (.iload 4, 2) := by decide +kernel
theorem dL_law_331 : decode code 331 = .ok (.iconst 2, 1) := by decide +kernel
theorem dL_law_332 : decode code 332 = .ok (.iadd, 1) := by decide +kernel
theorem dL_law_333 : decode code 333 = .ok (.iaload, 1) := by decide +kernel
theorem dL_law_334 : decode code 334 = .ok (.aload_n 0, 1) := by decide +kernel
theorem dL_law_335 : decode code 335 = .ok (.iload 4, 2) := by decide +kernel
theorem dL_law_337 : decode code 337 = .ok (.iconst 3, 1) := by decide +kernel
theorem dL_law_338 : decode code 338 = .ok (.iadd, 1) := by decide +kernel
theorem dL_law_339 : decode code 339 = .ok (.iaload, 1) := by decide +kernel
theorem dL_law_340 : decode code 340 = .ok (.aload_n 0, 1) := by decide +kernel
theorem dL_law_341 : decode code 341 = .ok (.iload 4, 2) := by decide +kernel
theorem dL_law_343 : decode code 343 = .ok (.iconst 4, 1) := by decide +kernel
theorem dL_law_344 : decode code 344 = .ok (.iadd, 1) := by decide +kernel
theorem dL_law_345 : decode code 345 = .ok (.iaload, 1) := by decide +kernel
theorem dL_law_346 : decode code 346 = .ok (.aload_n 0, 1) := by decide +kernel
theorem dL_law_347 : decode code 347 = .ok (.iload 4, 2) := by decide +kernel
theorem dL_law_349 : decode code 349 = .ok (.iconst 5, 1) := by decide +kernel
theorem dL_law_350 : decode code 350 = .ok (.iadd, 1) := by decide +kernel
theorem dL_law_351 : decode code 351 = .ok (.iaload, 1) := by decide +kernel
theorem dL_law_352 : decode code 352 = .ok (.invokevirtual 92, 3) := by decide +kernel
theorem dL_law_355 : decode code 355 = .ok (.istore 6, 2) := by decide +kernel
theorem dL_law_357 : decode code 357 = .ok (.aload_n 2, 1) := by decide +kernel
theorem dL_law_358 : decode code 358 = .ok (.invokevirtual 81, 3) := by decide +kernel
theorem dL_law_361 : decode code 361 = .ok (.iload 5, 2) := by decide +kernel
theorem dL_law_363 : decode code 363 = .ok (.if_icmp .eq 5, 3) := by decide +kernel
theorem dL_law_366 : decode code 366 = .ok (.iconst 0, 1) := by decide +kernel
theorem dL_law_367 : decode code 367 = .ok (.ireturn, 1) := by decide +kernel
theorem dL_law_368 : decode code 368 = .ok (.iload 5, 2) := by decide +kernel
theorem dL_law_370 : decode code 370 = .ok (.ifCond .ne 15, 3) := by decide +kernel
theorem dL_law_373 : decode code 373 = .ok (.aload_n 3, 1) := by decide +kernel
theorem dL_law_374 : decode code 374 = .ok (.iconst 0, 1) := by decide +kernel
theorem dL_law_375 : decode code 375 = .ok (.laload, 1) := by decide +kernel
theorem dL_law_376 : decode code 376 = .ok (.iload 6, 2) := by decide +kernel
theorem dL_law_378 : decode code 378 = .ok (.i2l, 1) := by decide +kernel
theorem dL_law_379 : decode code 379 = .ok (.lcmp, 1) := by decide +kernel
theorem dL_law_380 : decode code 380 = .ok (.ifCond .eq 5, 3) := by decide +kernel
theorem dL_law_383 : decode code 383 = .ok (.iconst 0, 1) := by decide +kernel
theorem dL_law_384 : decode code 384 = .ok (.ireturn, 1) := by decide +kernel
theorem dL_law_385 : decode code 385 = .ok (.goto 840, 3) := by decide +kernel
theorem dL_law_388 : decode code 388 = .ok (.aload_n 1, 1) := by decide +kernel
theorem dL_law_389 : decode code 389 = .ok (.aload_n 0, 1) := by decide +kernel
theorem dL_law_390 : decode code 390 = .ok (.iload 4, 2) := by decide +kernel
theorem dL_law_392 : decode code 392 = .ok (.iconst 1, 1) := by decide +kernel
theorem dL_law_393 : decode code 393 = .ok (.iadd, 1) := by decide +kernel
theorem dL_law_394 : decode code 394 = .ok (.iaload, 1) := by decide +kernel
theorem dL_law_395 : decode code 395 = .ok (.invokestatic 93, 3) := by decide +kernel
theorem dL_law_398 : decode code 398 = .ok (.istore 5, 2) := by decide +kernel
theorem dL_law_400 : decode code 400 = .ok (.aload_n 2, 1) := by decide +kernel
theorem dL_law_401 : decode code 401 = .ok (.aload_n 0, 1) := by decide +kernel
theorem dL_law_402 : decode code 402 = .ok (.iload 4, 2) := by decide +kernel
theorem dL_law_404 : decode code 404 = .ok (.iconst 1, 1) := by decide +kernel
theorem dL_law_405 : decode code 405 = .ok (.iadd, 1) := by decide +kernel
theorem dL_law_406 : decode code 406 = .ok (.iaload, 1) := by decide +kernel
theorem dL_law_407 : decode code 407 = .ok (.invokevirtual 96, 3) := by decide +kernel
theorem dL_law_410 : decode code 410 = .ok (.aload_n 2, 1) := by decide +kernel
theorem dL_law_411 : decode code 411 = .ok (.invokevirtual 81, 3) := by decide +kernel
theorem dL_law_414 : decode code 414 = .ok (.iload 5, 2) := by decide +kernel
theorem dL_law_416 : decode code 416 = .ok (.if_icmp .eq 5, 3) := by decide +kernel
theorem dL_law_419 : decode code 419 = .ok (.iconst 0, 1) := by decide +kernel
theorem dL_law_420 : decode code 420 = .ok (.ireturn, 1) := by decide +kernel
theorem dL_law_421 : decode code 421 = .ok (.goto 804, 3) := by decide +kernel
theorem dL_law_424 : decode code 424 = .ok (.aload_n 1, 1) := by decide +kernel
theorem dL_law_425 : decode code 425 = .ok (.aload_n 0, 1) := by decide +kernel
theorem dL_law_426 : decode code 426 = .ok (.iload 4, 2) := by decide +kernel
theorem dL_law_428 : decode code 428 = .ok (.iconst 1, 1) := by decide +kernel
theorem dL_law_429 : decode code 429 = .ok (.iadd, 1) := by decide +kernel
theorem dL_law_430 : decode code 430 = .ok (.iaload, 1) := by decide +kernel
theorem dL_law_431 : decode code 431 = .ok (.aload_n 0, 1) := by decide +kernel
theorem dL_law_432 : decode code 432 = .ok (.iload 4, 2) := by decide +kernel
theorem dL_law_434 : decode code 434 = .ok (.iconst 2, 1) := by decide +kernel
theorem dL_law_435 : decode code 435 = .ok (.iadd, 1) := by decide +kernel
theorem dL_law_436 : decode code 436 = .ok (.iaload, 1) := by decide +kernel
theorem dL_law_437 : decode code 437 = .ok (.ifCond .eq 7, 3) := by decide +kernel
theorem dL_law_440 : decode code 440 = .ok (.iconst 1, 1) := by decide +kernel
theorem dL_law_441 : decode code 441 = .ok (.goto 4, 3) := by decide +kernel
theorem dL_law_444 : decode code 444 = .ok (.iconst 0, 1) := by decide +kernel
theorem dL_law_445 : decode code 445 = .ok (.aload_n 3, 1) := by decide +kernel
theorem dL_law_446 : decode code 446 = .ok (.invokestatic 97, 3) := by decide +kernel
theorem dL_law_449 : decode code 449 = .ok (.istore 5, 2) := by decide +kernel
theorem dL_law_451 : decode code 451 = .ok (.aload_n 2, 1) := by decide +kernel
theorem dL_law_452 : decode code 452 = .ok (.aload_n 0, 1) := by decide +kernel
theorem dL_law_453 : decode code 453 = .ok (.iload 4, 2) := by decide +kernel
theorem dL_law_455 : decode code 455 = .ok (.iconst 1, 1) := by decide +kernel
theorem dL_law_456 : decode code 456 = .ok (.iadd, 1) := by decide +kernel
theorem dL_law_457 : decode code 457 = .ok (.iaload, 1) := by decide +kernel
theorem dL_law_458 : decode code 458 = .ok (.aload_n 0, 1) := by decide +kernel
theorem dL_law_459 : decode code 459 = .ok (.iload 4, 2) := by decide +kernel
theorem dL_law_461 : decode code 461 = .ok (.iconst 2, 1) := by decide +kernel
theorem dL_law_462 : decode code 462 = .ok (.iadd, 1) := by decide +kernel
theorem dL_law_463 : decode code 463 = .ok (.iaload, 1) := by decide +kernel
theorem dL_law_464 : decode code 464 = .ok (.ifCond .eq 7, 3) := by decide +kernel
theorem dL_law_467 : decode code 467 = .ok (.iconst 1, 1) := by decide +kernel
theorem dL_law_468 : decode code 468 = .ok (.goto 4, 3) := by decide +kernel
theorem dL_law_471 : decode code 471 = .ok (.iconst 0, 1) := by decide +kernel
theorem dL_law_472 : decode code 472 = .ok (.invokevirtual 100, 3) := by decide +kernel
theorem dL_law_475 : decode code 475 = .ok (.istore 6, 2) := by decide +kernel
theorem dL_law_477 : decode code 477 = .ok (.aload_n 2, 1) := by decide +kernel
theorem dL_law_478 : decode code 478 = .ok (.invokevirtual 81, 3) := by decide +kernel
theorem dL_law_481 : decode code 481 = .ok (.iload 5, 2) := by decide +kernel
theorem dL_law_483 : decode code 483 = .ok (.if_icmp .eq 5, 3) := by decide +kernel
theorem dL_law_486 : decode code 486 = .ok (.iconst 0, 1) := by decide +kernel
theorem dL_law_487 : decode code 487 = .ok (.ireturn, 1) := by decide +kernel
theorem dL_law_488 : decode code 488 = .ok (.iload 5, 2) := by decide +kernel
theorem dL_law_490 : decode code 490 = .ok (.ifCond .ne 15, 3) := by decide +kernel
theorem dL_law_493 : decode code 493 = .ok (.aload_n 3, 1) := by decide +kernel
theorem dL_law_494 : decode code 494 = .ok (.iconst 0, 1) := by decide +kernel
theorem dL_law_495 : decode code 495 = .ok (.laload, 1) := by decide +kernel
theorem dL_law_496 : decode code 496 = .ok (.iload 6, 2) := by decide +kernel
theorem dL_law_498 : decode code 498 = .ok (.i2l, 1) := by decide +kernel
theorem dL_law_499 : decode code 499 = .ok (.lcmp, 1) := by decide +kernel
theorem dL_law_500 : decode code 500 = .ok (.ifCond .eq 5, 3) := by decide +kernel
theorem dL_law_503 : decode code 503 = .ok (.iconst 0, 1) := by decide +kernel
theorem dL_law_504 : decode code 504 = .ok (.ireturn, 1) := by decide +kernel
theorem dL_law_505 : decode code 505 = .ok (.goto 720, 3) := by decide +kernel
theorem dL_law_508 : decode code 508 = .ok (.aload_n 1, 1) := by decide +kernel
theorem dL_law_509 : decode code 509 = .ok (.aload_n 0, 1) := by decide +kernel
theorem dL_law_510 : decode code 510 = .ok (.iload 4, 2) := by decide +kernel
theorem dL_law_512 : decode code 512 = .ok (.iconst 1, 1) := by decide +kernel
theorem dL_law_513 : decode code 513 = .ok (.iadd, 1) := by decide +kernel
theorem dL_law_514 : decode code 514 = .ok (.iaload, 1) := by decide +kernel
theorem dL_law_515 : decode code 515 = .ok (.aload_n 0, 1) := by decide +kernel
theorem dL_law_516 : decode code 516 = .ok (.iload 4, 2) := by decide +kernel
theorem dL_law_518 : decode code 518 = .ok (.iconst 2, 1) := by decide +kernel
theorem dL_law_519 : decode code 519 = .ok (.iadd, 1) := by decide +kernel
theorem dL_law_520 : decode code 520 = .ok (.iaload, 1) := by decide +kernel
theorem dL_law_521 : decode code 521 = .ok (.aload_n 0, 1) := by decide +kernel
theorem dL_law_522 : decode code 522 = .ok (.iload 4, 2) := by decide +kernel
theorem dL_law_524 : decode code 524 = .ok (.iconst 3, 1) := by decide +kernel
theorem dL_law_525 : decode code 525 = .ok (.iadd, 1) := by decide +kernel
theorem dL_law_526 : decode code 526 = .ok (.iaload, 1) := by decide +kernel
theorem dL_law_527 : decode code 527 = .ok (.ifCond .eq 7, 3) := by decide +kernel
theorem dL_law_530 : decode code 530 = .ok (.iconst 1, 1) := by decide +kernel
theorem dL_law_531 : decode code 531 = .ok (.goto 4, 3) := by decide +kernel
theorem dL_law_534 : decode code 534 = .ok (.iconst 0, 1) := by decide +kernel
theorem dL_law_535 : decode code 535 = .ok (.aload_n 3, 1) := by decide +kernel
theorem dL_law_536 : decode code 536 = .ok (.invokestatic 101, 3) := by decide +kernel
theorem dL_law_539 : decode code 539 = .ok (.istore 5, 2) := by decide +kernel
theorem dL_law_541 : decode code 541 = .ok (.aload_n 2, 1) := by decide +kernel
theorem dL_law_542 : decode code 542 = .ok (.aload_n 0, 1) := by decide +kernel
theorem dL_law_543 : decode code 543 = .ok (.iload 4, 2) := by decide +kernel
theorem dL_law_545 : decode code 545 = .ok (.iconst 1, 1) := by decide +kernel
theorem dL_law_546 : decode code 546 = .ok (.iadd, 1) := by decide +kernel
theorem dL_law_547 : decode code 547 = .ok (.iaload, 1) := by decide +kernel
theorem dL_law_548 : decode code 548 = .ok (.aload_n 0, 1) := by decide +kernel
theorem dL_law_549 : decode code 549 = .ok (.iload 4, 2) := by decide +kernel
theorem dL_law_551 : decode code 551 = .ok (.iconst 2, 1) := by decide +kernel
theorem dL_law_552 : decode code 552 = .ok (.iadd, 1) := by decide +kernel
theorem dL_law_553 : decode code 553 = .ok (.iaload, 1) := by decide +kernel
theorem dL_law_554 : decode code 554 = .ok (.aload_n 0, 1) := by decide +kernel
theorem dL_law_555 : decode code 555 = .ok (.iload 4, 2) := by decide +kernel
theorem dL_law_557 : decode code 557 = .ok (.iconst 3, 1) := by decide +kernel
theorem dL_law_558 : decode code 558 = .ok (.iadd, 1) := by decide +kernel
theorem dL_law_559 : decode code 559 = .ok (.iaload, 1) := by decide +kernel
theorem dL_law_560 : decode code 560 = .ok (.ifCond .eq 7, 3) := by decide +kernel
theorem dL_law_563 : decode code 563 = .ok (.iconst 1, 1) := by decide +kernel
theorem dL_law_564 : decode code 564 = .ok (.goto 4, 3) := by decide +kernel
theorem dL_law_567 : decode code 567 = .ok (.iconst 0, 1) := by decide +kernel
theorem dL_law_568 : decode code 568 = .ok (.invokevirtual 104, 3) := by decide +kernel
theorem dL_law_571 : decode code 571 = .ok (.istore 6, 2) := by decide +kernel
theorem dL_law_573 : decode code 573 = .ok (.aload_n 2, 1) := by decide +kernel
theorem dL_law_574 : decode code 574 = .ok (.invokevirtual 81, 3) := by decide +kernel
theorem dL_law_577 : decode code 577 = .ok (.iload 5, 2) := by decide +kernel
theorem dL_law_579 : decode code 579 = .ok (.if_icmp .eq 5, 3) := by decide +kernel
theorem dL_law_582 : decode code 582 = .ok (.iconst 0, 1) := by decide +kernel
theorem dL_law_583 : decode code 583 = .ok (.ireturn, 1) := by decide +kernel
theorem dL_law_584 : decode code 584 = .ok (.iload 5, 2) := by decide +kernel
theorem dL_law_586 : decode code 586 = .ok (.ifCond .ne 15, 3) := by decide +kernel
theorem dL_law_589 : decode code 589 = .ok (.aload_n 3, 1) := by decide +kernel
theorem dL_law_590 : decode code 590 = .ok (.iconst 0, 1) := by decide +kernel
theorem dL_law_591 : decode code 591 = .ok (.laload, 1) := by decide +kernel
theorem dL_law_592 : decode code 592 = .ok (.iload 6, 2) := by decide +kernel
theorem dL_law_594 : decode code 594 = .ok (.i2l, 1) := by decide +kernel
theorem dL_law_595 : decode code 595 = .ok (.lcmp, 1) := by decide +kernel
theorem dL_law_596 : decode code 596 = .ok (.ifCond .eq 5, 3) := by decide +kernel
theorem dL_law_599 : decode code 599 = .ok (.iconst 0, 1) := by decide +kernel
theorem dL_law_600 : decode code 600 = .ok (.ireturn, 1) := by decide +kernel
theorem dL_law_601 : decode code 601 = .ok (.goto 624, 3) := by decide +kernel
theorem dL_law_604 : decode code 604 = .ok (.aload_n 1, 1) := by decide +kernel
theorem dL_law_605 : decode code 605 = .ok (.aload_n 0, 1) := by decide +kernel
theorem dL_law_606 : decode code 606 = .ok (.iload 4, 2) := by decide +kernel
theorem dL_law_608 : decode code 608 = .ok (.iconst 1, 1) := by decide +kernel
theorem dL_law_609 : decode code 609 = .ok (.iadd, 1) := by decide +kernel
theorem dL_law_610 : decode code 610 = .ok (.iaload, 1) := by decide +kernel
theorem dL_law_611 : decode code 611 = .ok (.aload_n 0, 1) := by decide +kernel
theorem dL_law_612 : decode code 612 = .ok (.iload 4, 2) := by decide +kernel
theorem dL_law_614 : decode code 614 = .ok (.iconst 2, 1) := by decide +kernel
theorem dL_law_615 : decode code 615 = .ok (.iadd, 1) := by decide +kernel
theorem dL_law_616 : decode code 616 = .ok (.iaload, 1) := by decide +kernel
theorem dL_law_617 : decode code 617 = .ok (.aload_n 0, 1) := by decide +kernel
theorem dL_law_618 : decode code 618 = .ok (.iload 4, 2) := by decide +kernel
theorem dL_law_620 : decode code 620 = .ok (.iconst 3, 1) := by decide +kernel
theorem dL_law_621 : decode code 621 = .ok (.iadd, 1) := by decide +kernel
theorem dL_law_622 : decode code 622 = .ok (.iaload, 1) := by decide +kernel
theorem dL_law_623 : decode code 623 = .ok (.aload_n 3, 1) := by decide +kernel
theorem dL_law_624 : decode code 624 = .ok (.invokestatic 105, 3) := by decide +kernel
theorem dL_law_627 : decode code 627 = .ok (.istore 5, 2) := by decide +kernel
theorem dL_law_629 : decode code 629 = .ok (.aload_n 2, 1) := by decide +kernel
theorem dL_law_630 : decode code 630 = .ok (.aload_n 0, 1) := by decide +kernel
theorem dL_law_631 : decode code 631 = .ok (.iload 4, 2) := by decide +kernel
theorem dL_law_633 : decode code 633 = .ok (.iconst 1, 1) := by decide +kernel
theorem dL_law_634 : decode code 634 = .ok (.iadd, 1) := by decide +kernel
theorem dL_law_635 : decode code 635 = .ok (.iaload, 1) := by decide +kernel
theorem dL_law_636 : decode code 636 = .ok (.aload_n 0, 1) := by decide +kernel
theorem dL_law_637 : decode code 637 = .ok (.iload 4, 2) := by decide +kernel
theorem dL_law_639 : decode code 639 = .ok (.iconst 2, 1) := by decide +kernel
theorem dL_law_640 : decode code 640 = .ok (.iadd, 1) := by decide +kernel
theorem dL_law_641 : decode code 641 = .ok (.iaload, 1) := by decide +kernel
theorem dL_law_642 : decode code 642 = .ok (.aload_n 0, 1) := by decide +kernel
theorem dL_law_643 : decode code 643 = .ok (.iload 4, 2) := by decide +kernel
theorem dL_law_645 : decode code 645 = .ok (.iconst 3, 1) := by decide +kernel
theorem dL_law_646 : decode code 646 = .ok (.iadd, 1) := by decide +kernel
theorem dL_law_647 : decode code 647 = .ok (.iaload, 1) := by decide +kernel
theorem dL_law_648 : decode code 648 = .ok (.invokevirtual 108, 3) := by decide +kernel
theorem dL_law_651 : decode code 651 = .ok (.istore 6, 2) := by decide +kernel
theorem dL_law_653 : decode code 653 = .ok (.aload_n 2, 1) := by decide +kernel
theorem dL_law_654 : decode code 654 = .ok (.invokevirtual 81, 3) := by decide +kernel
theorem dL_law_657 : decode code 657 = .ok (.iload 5, 2) := by decide +kernel
theorem dL_law_659 : decode code 659 = .ok (.if_icmp .eq 5, 3) := by decide +kernel
theorem dL_law_662 : decode code 662 = .ok (.iconst 0, 1) := by decide +kernel
theorem dL_law_663 : decode code 663 = .ok (.ireturn, 1) := by decide +kernel
theorem dL_law_664 : decode code 664 = .ok (.iload 5, 2) := by decide +kernel
theorem dL_law_666 : decode code 666 = .ok (.ifCond .ne 15, 3) := by decide +kernel
theorem dL_law_669 : decode code 669 = .ok (.aload_n 3, 1) := by decide +kernel
theorem dL_law_670 : decode code 670 = .ok (.iconst 0, 1) := by decide +kernel
theorem dL_law_671 : decode code 671 = .ok (.laload, 1) := by decide +kernel
theorem dL_law_672 : decode code 672 = .ok (.iload 6, 2) := by decide +kernel
theorem dL_law_674 : decode code 674 = .ok (.i2l, 1) := by decide +kernel
theorem dL_law_675 : decode code 675 = .ok (.lcmp, 1) := by decide +kernel
theorem dL_law_676 : decode code 676 = .ok (.ifCond .eq 5, 3) := by decide +kernel
theorem dL_law_679 : decode code 679 = .ok (.iconst 0, 1) := by decide +kernel
theorem dL_law_680 : decode code 680 = .ok (.ireturn, 1) := by decide +kernel
theorem dL_law_681 : decode code 681 = .ok (.goto 544, 3) := by decide +kernel
theorem dL_law_684 : decode code 684 = .ok (.aload_n 1, 1) := by decide +kernel
theorem dL_law_685 : decode code 685 = .ok (.aload_n 0, 1) := by decide +kernel
theorem dL_law_686 : decode code 686 = .ok (.iload 4, 2) := by decide +kernel
theorem dL_law_688 : decode code 688 = .ok (.iconst 1, 1) := by decide +kernel
theorem dL_law_689 : decode code 689 = .ok (.iadd, 1) := by decide +kernel
theorem dL_law_690 : decode code 690 = .ok (.iaload, 1) := by decide +kernel
theorem dL_law_691 : decode code 691 = .ok (.aload_n 3, 1) := by decide +kernel
theorem dL_law_692 : decode code 692 = .ok (.invokestatic 109, 3) := by decide +kernel
theorem dL_law_695 : decode code 695 = .ok (.istore 5, 2) := by decide +kernel
theorem dL_law_697 : decode code 697 = .ok (.aload_n 2, 1) := by decide +kernel
theorem dL_law_698 : decode code 698 = .ok (.aload_n 0, 1) := by decide +kernel
theorem dL_law_699 : decode code 699 = .ok (.iload 4, 2) := by decide +kernel
theorem dL_law_701 : decode code 701 = .ok (.iconst 1, 1) := by decide +kernel
theorem dL_law_702 : decode code 702 = .ok (.iadd, 1) := by decide +kernel
theorem dL_law_703 : decode code 703 = .ok (.iaload, 1) := by decide +kernel
theorem dL_law_704 : decode code 704 = .ok (.invokevirtual 112, 3) := by decide +kernel
theorem dL_law_707 : decode code 707 = .ok (.istore 6, 2) := by decide +kernel
theorem dL_law_709 : decode code 709 = .ok (.aload_n 2, 1) := by decide +kernel
theorem dL_law_710 : decode code 710 = .ok (.invokevirtual 81, 3) := by decide +kernel
theorem dL_law_713 : decode code 713 = .ok (.iload 5, 2) := by decide +kernel
theorem dL_law_715 : decode code 715 = .ok (.if_icmp .eq 5, 3) := by decide +kernel
theorem dL_law_718 : decode code 718 = .ok (.iconst 0, 1) := by decide +kernel
theorem dL_law_719 : decode code 719 = .ok (.ireturn, 1) := by decide +kernel
theorem dL_law_720 : decode code 720 = .ok (.iload 5, 2) := by decide +kernel
theorem dL_law_722 : decode code 722 = .ok (.ifCond .ne 15, 3) := by decide +kernel
theorem dL_law_725 : decode code 725 = .ok (.aload_n 3, 1) := by decide +kernel
theorem dL_law_726 : decode code 726 = .ok (.iconst 0, 1) := by decide +kernel
theorem dL_law_727 : decode code 727 = .ok (.laload, 1) := by decide +kernel
theorem dL_law_728 : decode code 728 = .ok (.iload 6, 2) := by decide +kernel
theorem dL_law_730 : decode code 730 = .ok (.i2l, 1) := by decide +kernel
theorem dL_law_731 : decode code 731 = .ok (.lcmp, 1) := by decide +kernel
theorem dL_law_732 : decode code 732 = .ok (.ifCond .eq 5, 3) := by decide +kernel
theorem dL_law_735 : decode code 735 = .ok (.iconst 0, 1) := by decide +kernel
theorem dL_law_736 : decode code 736 = .ok (.ireturn, 1) := by decide +kernel
theorem dL_law_737 : decode code 737 = .ok (.goto 488, 3) := by decide +kernel
theorem dL_law_740 : decode code 740 = .ok (.aload_n 1, 1) := by decide +kernel
theorem dL_law_741 : decode code 741 = .ok (.aload_n 0, 1) := by decide +kernel
theorem dL_law_742 : decode code 742 = .ok (.iload 4, 2) := by decide +kernel
theorem dL_law_744 : decode code 744 = .ok (.iconst 1, 1) := by decide +kernel
theorem dL_law_745 : decode code 745 = .ok (.iadd, 1) := by decide +kernel
theorem dL_law_746 : decode code 746 = .ok (.iaload, 1) := by decide +kernel
theorem dL_law_747 : decode code 747 = .ok (.aload_n 0, 1) := by decide +kernel
theorem dL_law_748 : decode code 748 = .ok (.iload 4, 2) := by decide +kernel
theorem dL_law_750 : decode code 750 = .ok (.iconst 2, 1) := by decide +kernel
theorem dL_law_751 : decode code 751 = .ok (.iadd, 1) := by decide +kernel
theorem dL_law_752 : decode code 752 = .ok (.iaload, 1) := by decide +kernel
theorem dL_law_753 : decode code 753 = .ok (.aload_n 0, 1) := by decide +kernel
theorem dL_law_754 : decode code 754 = .ok (.iload 4, 2) := by decide +kernel
theorem dL_law_756 : decode code 756 = .ok (.iconst 3, 1) := by decide +kernel
theorem dL_law_757 : decode code 757 = .ok (.iadd, 1) := by decide +kernel
theorem dL_law_758 : decode code 758 = .ok (.iaload, 1) := by decide +kernel
theorem dL_law_759 : decode code 759 = .ok (.aload_n 3, 1) := by decide +kernel
theorem dL_law_760 : decode code 760 = .ok (.invokestatic 113, 3) := by decide +kernel
theorem dL_law_763 : decode code 763 = .ok (.istore 5, 2) := by decide +kernel
theorem dL_law_765 : decode code 765 = .ok (.aload_n 2, 1) := by decide +kernel
theorem dL_law_766 : decode code 766 = .ok (.aload_n 0, 1) := by decide +kernel
theorem dL_law_767 : decode code 767 = .ok (.iload 4, 2) := by decide +kernel
theorem dL_law_769 : decode code 769 = .ok (.iconst 1, 1) := by decide +kernel
theorem dL_law_770 : decode code 770 = .ok (.iadd, 1) := by decide +kernel
theorem dL_law_771 : decode code 771 = .ok (.iaload, 1) := by decide +kernel
theorem dL_law_772 : decode code 772 = .ok (.aload_n 0, 1) := by decide +kernel
theorem dL_law_773 : decode code 773 = .ok (.iload 4, 2) := by decide +kernel
theorem dL_law_775 : decode code 775 = .ok (.iconst 2, 1) := by decide +kernel
theorem dL_law_776 : decode code 776 = .ok (.iadd, 1) := by decide +kernel
theorem dL_law_777 : decode code 777 = .ok (.iaload, 1) := by decide +kernel
theorem dL_law_778 : decode code 778 = .ok (.aload_n 0, 1) := by decide +kernel
theorem dL_law_779 : decode code 779 = .ok (.iload 4, 2) := by decide +kernel
theorem dL_law_781 : decode code 781 = .ok (.iconst 3, 1) := by decide +kernel
theorem dL_law_782 : decode code 782 = .ok (.iadd, 1) := by decide +kernel
theorem dL_law_783 : decode code 783 = .ok (.iaload, 1) := by decide +kernel
theorem dL_law_784 : decode code 784 = .ok (.invokevirtual 115, 3) := by decide +kernel
theorem dL_law_787 : decode code 787 = .ok (.istore 6, 2) := by decide +kernel
theorem dL_law_789 : decode code 789 = .ok (.aload_n 2, 1) := by decide +kernel
theorem dL_law_790 : decode code 790 = .ok (.invokevirtual 81, 3) := by decide +kernel
theorem dL_law_793 : decode code 793 = .ok (.iload 5, 2) := by decide +kernel
theorem dL_law_795 : decode code 795 = .ok (.if_icmp .eq 5, 3) := by decide +kernel
theorem dL_law_798 : decode code 798 = .ok (.iconst 0, 1) := by decide +kernel
theorem dL_law_799 : decode code 799 = .ok (.ireturn, 1) := by decide +kernel
theorem dL_law_800 : decode code 800 = .ok (.iload 5, 2) := by decide +kernel
theorem dL_law_802 : decode code 802 = .ok (.ifCond .ne 15, 3) := by decide +kernel
theorem dL_law_805 : decode code 805 = .ok (.aload_n 3, 1) := by decide +kernel
theorem dL_law_806 : decode code 806 = .ok (.iconst 0, 1) := by decide +kernel
theorem dL_law_807 : decode code 807 = .ok (.laload, 1) := by decide +kernel
theorem dL_law_808 : decode code 808 = .ok (.iload 6, 2) := by decide +kernel
theorem dL_law_810 : decode code 810 = .ok (.i2l, 1) := by decide +kernel
theorem dL_law_811 : decode code 811 = .ok (.lcmp, 1) := by decide +kernel
theorem dL_law_812 : decode code 812 = .ok (.ifCond .eq 5, 3) := by decide +kernel
theorem dL_law_815 : decode code 815 = .ok (.iconst 0, 1) := by decide +kernel
theorem dL_law_816 : decode code 816 = .ok (.ireturn, 1) := by decide +kernel
theorem dL_law_817 : decode code 817 = .ok (.goto 408, 3) := by decide +kernel
theorem dL_law_820 : decode code 820 = .ok (.aload_n 1, 1) := by decide +kernel
theorem dL_law_821 : decode code 821 = .ok (.aload_n 0, 1) := by decide +kernel
theorem dL_law_822 : decode code 822 = .ok (.iload 4, 2) := by decide +kernel
theorem dL_law_824 : decode code 824 = .ok (.iconst 1, 1) := by decide +kernel
theorem dL_law_825 : decode code 825 = .ok (.iadd, 1) := by decide +kernel
theorem dL_law_826 : decode code 826 = .ok (.iaload, 1) := by decide +kernel
theorem dL_law_827 : decode code 827 = .ok (.aload_n 0, 1) := by decide +kernel
theorem dL_law_828 : decode code 828 = .ok (.iload 4, 2) := by decide +kernel
theorem dL_law_830 : decode code 830 = .ok (.iconst 2, 1) := by decide +kernel
theorem dL_law_831 : decode code 831 = .ok (.iadd, 1) := by decide +kernel
theorem dL_law_832 : decode code 832 = .ok (.iaload, 1) := by decide +kernel
theorem dL_law_833 : decode code 833 = .ok (.aload_n 3, 1) := by decide +kernel
theorem dL_law_834 : decode code 834 = .ok (.invokestatic 116, 3) := by decide +kernel
theorem dL_law_837 : decode code 837 = .ok (.istore 5, 2) := by decide +kernel
theorem dL_law_839 : decode code 839 = .ok (.aload_n 2, 1) := by decide +kernel
theorem dL_law_840 : decode code 840 = .ok (.aload_n 0, 1) := by decide +kernel
theorem dL_law_841 : decode code 841 = .ok (.iload 4, 2) := by decide +kernel
theorem dL_law_843 : decode code 843 = .ok (.iconst 1, 1) := by decide +kernel
theorem dL_law_844 : decode code 844 = .ok (.iadd, 1) := by decide +kernel
theorem dL_law_845 : decode code 845 = .ok (.iaload, 1) := by decide +kernel
theorem dL_law_846 : decode code 846 = .ok (.aload_n 0, 1) := by decide +kernel
theorem dL_law_847 : decode code 847 = .ok (.iload 4, 2) := by decide +kernel
theorem dL_law_849 : decode code 849 = .ok (.iconst 2, 1) := by decide +kernel
theorem dL_law_850 : decode code 850 = .ok (.iadd, 1) := by decide +kernel
theorem dL_law_851 : decode code 851 = .ok (.iaload, 1) := by decide +kernel
theorem dL_law_852 : decode code 852 = .ok (.invokevirtual 118, 3) := by decide +kernel
theorem dL_law_855 : decode code 855 = .ok (.istore 6, 2) := by decide +kernel
theorem dL_law_857 : decode code 857 = .ok (.aload_n 2, 1) := by decide +kernel
theorem dL_law_858 : decode code 858 = .ok (.invokevirtual 81, 3) := by decide +kernel
theorem dL_law_861 : decode code 861 = .ok (.iload 5, 2) := by decide +kernel
theorem dL_law_863 : decode code 863 = .ok (.if_icmp .eq 5, 3) := by decide +kernel
theorem dL_law_866 : decode code 866 = .ok (.iconst 0, 1) := by decide +kernel
theorem dL_law_867 : decode code 867 = .ok (.ireturn, 1) := by decide +kernel
theorem dL_law_868 : decode code 868 = .ok (.iload 5, 2) := by decide +kernel
theorem dL_law_870 : decode code 870 = .ok (.ifCond .ne 15, 3) := by decide +kernel
theorem dL_law_873 : decode code 873 = .ok (.aload_n 3, 1) := by decide +kernel
theorem dL_law_874 : decode code 874 = .ok (.iconst 0, 1) := by decide +kernel
theorem dL_law_875 : decode code 875 = .ok (.laload, 1) := by decide +kernel
theorem dL_law_876 : decode code 876 = .ok (.iload 6, 2) := by decide +kernel
theorem dL_law_878 : decode code 878 = .ok (.i2l, 1) := by decide +kernel
theorem dL_law_879 : decode code 879 = .ok (.lcmp, 1) := by decide +kernel
theorem dL_law_880 : decode code 880 = .ok (.ifCond .eq 5, 3) := by decide +kernel
theorem dL_law_883 : decode code 883 = .ok (.iconst 0, 1) := by decide +kernel
theorem dL_law_884 : decode code 884 = .ok (.ireturn, 1) := by decide +kernel
theorem dL_law_885 : decode code 885 = .ok (.goto 340, 3) := by decide +kernel
theorem dL_law_888 : decode code 888 = .ok (.aload_n 1, 1) := by decide +kernel
theorem dL_law_889 : decode code 889 = .ok (.aload_n 0, 1) := by decide +kernel
theorem dL_law_890 : decode code 890 = .ok (.iload 4, 2) := by decide +kernel
theorem dL_law_892 : decode code 892 = .ok (.iconst 1, 1) := by decide +kernel
theorem dL_law_893 : decode code 893 = .ok (.iadd, 1) := by decide +kernel
theorem dL_law_894 : decode code 894 = .ok (.iaload, 1) := by decide +kernel
theorem dL_law_895 : decode code 895 = .ok (.aload_n 0, 1) := by decide +kernel
theorem dL_law_896 : decode code 896 = .ok (.iload 4, 2) := by decide +kernel
theorem dL_law_898 : decode code 898 = .ok (.iconst 2, 1) := by decide +kernel
theorem dL_law_899 : decode code 899 = .ok (.iadd, 1) := by decide +kernel
theorem dL_law_900 : decode code 900 = .ok (.iaload, 1) := by decide +kernel
theorem dL_law_901 : decode code 901 = .ok (.aload_n 3, 1) := by decide +kernel
theorem dL_law_902 : decode code 902 = .ok (.invokestatic 119, 3) := by decide +kernel
theorem dL_law_905 : decode code 905 = .ok (.istore 5, 2) := by decide +kernel
theorem dL_law_907 : decode code 907 = .ok (.aload_n 2, 1) := by decide +kernel
theorem dL_law_908 : decode code 908 = .ok (.aload_n 0, 1) := by decide +kernel
theorem dL_law_909 : decode code 909 = .ok (.iload 4, 2) := by decide +kernel
theorem dL_law_911 : decode code 911 = .ok (.iconst 1, 1) := by decide +kernel
theorem dL_law_912 : decode code 912 = .ok (.iadd, 1) := by decide +kernel
theorem dL_law_913 : decode code 913 = .ok (.iaload, 1) := by decide +kernel
theorem dL_law_914 : decode code 914 = .ok (.aload_n 0, 1) := by decide +kernel
theorem dL_law_915 : decode code 915 = .ok (.iload 4, 2) := by decide +kernel
theorem dL_law_917 : decode code 917 = .ok (.iconst 2, 1) := by decide +kernel
theorem dL_law_918 : decode code 918 = .ok (.iadd, 1) := by decide +kernel
theorem dL_law_919 : decode code 919 = .ok (.iaload, 1) := by decide +kernel
theorem dL_law_920 : decode code 920 = .ok (.invokevirtual 121, 3) := by decide +kernel
theorem dL_law_923 : decode code 923 = .ok (.istore 6, 2) := by decide +kernel
theorem dL_law_925 : decode code 925 = .ok (.aload_n 2, 1) := by decide +kernel
theorem dL_law_926 : decode code 926 = .ok (.invokevirtual 81, 3) := by decide +kernel
theorem dL_law_929 : decode code 929 = .ok (.iload 5, 2) := by decide +kernel
theorem dL_law_931 : decode code 931 = .ok (.if_icmp .eq 5, 3) := by decide +kernel
theorem dL_law_934 : decode code 934 = .ok (.iconst 0, 1) := by decide +kernel
theorem dL_law_935 : decode code 935 = .ok (.ireturn, 1) := by decide +kernel
theorem dL_law_936 : decode code 936 = .ok (.iload 5, 2) := by decide +kernel
theorem dL_law_938 : decode code 938 = .ok (.ifCond .ne 15, 3) := by decide +kernel
theorem dL_law_941 : decode code 941 = .ok (.aload_n 3, 1) := by decide +kernel
theorem dL_law_942 : decode code 942 = .ok (.iconst 0, 1) := by decide +kernel
theorem dL_law_943 : decode code 943 = .ok (.laload, 1) := by decide +kernel
theorem dL_law_944 : decode code 944 = .ok (.iload 6, 2) := by decide +kernel
theorem dL_law_946 : decode code 946 = .ok (.i2l, 1) := by decide +kernel
theorem dL_law_947 : decode code 947 = .ok (.lcmp, 1) := by decide +kernel
theorem dL_law_948 : decode code 948 = .ok (.ifCond .eq 5, 3) := by decide +kernel
theorem dL_law_951 : decode code 951 = .ok (.iconst 0, 1) := by decide +kernel
theorem dL_law_952 : decode code 952 = .ok (.ireturn, 1) := by decide +kernel
theorem dL_law_953 : decode code 953 = .ok (.goto 272, 3) := by decide +kernel
theorem dL_law_956 : decode code 956 = .ok (.aload_n 1, 1) := by decide +kernel
theorem dL_law_957 : decode code 957 = .ok (.aload_n 0, 1) := by decide +kernel
theorem dL_law_958 : decode code 958 = .ok (.iload 4, 2) := by decide +kernel
theorem dL_law_960 : decode code 960 = .ok (.iconst 1, 1) := by decide +kernel
theorem dL_law_961 : decode code 961 = .ok (.iadd, 1) := by decide +kernel
theorem dL_law_962 : decode code 962 = .ok (.iaload, 1) := by decide +kernel
theorem dL_law_963 : decode code 963 = .ok (.aload_n 0, 1) := by decide +kernel
theorem dL_law_964 : decode code 964 = .ok (.iload 4, 2) := by decide +kernel
theorem dL_law_966 : decode code 966 = .ok (.iconst 2, 1) := by decide +kernel
theorem dL_law_967 : decode code 967 = .ok (.iadd, 1) := by decide +kernel
theorem dL_law_968 : decode code 968 = .ok (.iaload, 1) := by decide +kernel
theorem dL_law_969 : decode code 969 = .ok (.aload_n 0, 1) := by decide +kernel
theorem dL_law_970 : decode code 970 = .ok (.iload 4, 2) := by decide +kernel
theorem dL_law_972 : decode code 972 = .ok (.iconst 3, 1) := by decide +kernel
theorem dL_law_973 : decode code 973 = .ok (.iadd, 1) := by decide +kernel
theorem dL_law_974 : decode code 974 = .ok (.iaload, 1) := by decide +kernel
theorem dL_law_975 : decode code 975 = .ok (.aload_n 0, 1) := by decide +kernel
theorem dL_law_976 : decode code 976 = .ok (.iload 4, 2) := by decide +kernel
theorem dL_law_978 : decode code 978 = .ok (.iconst 4, 1) := by decide +kernel
theorem dL_law_979 : decode code 979 = .ok (.iadd, 1) := by decide +kernel
theorem dL_law_980 : decode code 980 = .ok (.iaload, 1) := by decide +kernel
theorem dL_law_981 : decode code 981 = .ok (.aload_n 3, 1) := by decide +kernel
theorem dL_law_982 : decode code 982 = .ok (.invokestatic 122, 3) := by decide +kernel
theorem dL_law_985 : decode code 985 = .ok (.istore 5, 2) := by decide +kernel
theorem dL_law_987 : decode code 987 = .ok (.aload_n 2, 1) := by decide +kernel
theorem dL_law_988 : decode code 988 = .ok (.aload_n 0, 1) := by decide +kernel
theorem dL_law_989 : decode code 989 = .ok (.iload 4, 2) := by decide +kernel
theorem dL_law_991 : decode code 991 = .ok (.iconst 1, 1) := by decide +kernel
theorem dL_law_992 : decode code 992 = .ok (.iadd, 1) := by decide +kernel
theorem dL_law_993 : decode code 993 = .ok (.iaload, 1) := by decide +kernel
theorem dL_law_994 : decode code 994 = .ok (.aload_n 0, 1) := by decide +kernel
theorem dL_law_995 : decode code 995 = .ok (.iload 4, 2) := by decide +kernel
theorem dL_law_997 : decode code 997 = .ok (.iconst 2, 1) := by decide +kernel
theorem dL_law_998 : decode code 998 = .ok (.iadd, 1) := by decide +kernel
theorem dL_law_999 : decode code 999 = .ok (.iaload, 1) := by decide +kernel
theorem dL_law_1000 : decode code 1000 = .ok (.aload_n 0, 1) := by decide +kernel
theorem dL_law_1001 : decode code 1001 = .ok (.iload 4, 2) := by decide +kernel
theorem dL_law_1003 : decode code 1003 = .ok (.iconst 3, 1) := by decide +kernel
theorem dL_law_1004 : decode code 1004 = .ok (.iadd, 1) := by decide +kernel
theorem dL_law_1005 : decode code 1005 = .ok (.iaload, 1) := by decide +kernel
theorem dL_law_1006 : decode code 1006 = .ok (.aload_n 0, 1) := by decide +kernel
theorem dL_law_1007 : decode code 1007 = .ok (.iload 4, 2) := by decide +kernel
theorem dL_law_1009 : decode code 1009 = .ok (.iconst 4, 1) := by decide +kernel
theorem dL_law_1010 : decode code 1010 = .ok (.iadd, 1) := by decide +kernel
theorem dL_law_1011 : decode code 1011 = .ok (.iaload, 1) := by decide +kernel
theorem dL_law_1012 : decode code 1012 = .ok (.invokevirtual 125, 3) := by decide +kernel
theorem dL_law_1015 : decode code 1015 = .ok (.istore 6, 2) := by decide +kernel
theorem dL_law_1017 : decode code 1017 = .ok (.aload_n 2, 1) := by decide +kernel
theorem dL_law_1018 : decode code 1018 = .ok (.invokevirtual 81, 3) := by decide +kernel
theorem dL_law_1021 : decode code 1021 = .ok (.iload 5, 2) := by decide +kernel
theorem dL_law_1023 : decode code 1023 = .ok (.if_icmp .eq 5, 3) := by decide +kernel
theorem dL_law_1026 : decode code 1026 = .ok (.iconst 0, 1) := by decide +kernel
theorem dL_law_1027 : decode code 1027 = .ok (.ireturn, 1) := by decide +kernel
theorem dL_law_1028 : decode code 1028 = .ok (.iload 5, 2) := by decide +kernel
theorem dL_law_1030 : decode code 1030 = .ok (.ifCond .ne 15, 3) := by decide +kernel
theorem dL_law_1033 : decode code 1033 = .ok (.aload_n 3, 1) := by decide +kernel
theorem dL_law_1034 : decode code 1034 = .ok (.iconst 0, 1) := by decide +kernel
theorem dL_law_1035 : decode code 1035 = .ok (.laload, 1) := by decide +kernel
theorem dL_law_1036 : decode code 1036 = .ok (.iload 6, 2) := by decide +kernel
theorem dL_law_1038 : decode code 1038 = .ok (.i2l, 1) := by decide +kernel
theorem dL_law_1039 : decode code 1039 = .ok (.lcmp, 1) := by decide +kernel
theorem dL_law_1040 : decode code 1040 = .ok (.ifCond .eq 5, 3) := by decide +kernel
theorem dL_law_1043 : decode code 1043 = .ok (.iconst 0, 1) := by decide +kernel
theorem dL_law_1044 : decode code 1044 = .ok (.ireturn, 1) := by decide +kernel
theorem dL_law_1045 : decode code 1045 = .ok (.goto 180, 3) := by decide +kernel
theorem dL_law_1048 : decode code 1048 = .ok (.aload_n 1, 1) := by decide +kernel
theorem dL_law_1049 : decode code 1049 = .ok (.aload_n 0, 1) := by decide +kernel
theorem dL_law_1050 : decode code 1050 = .ok (.iload 4, 2) := by decide +kernel
theorem dL_law_1052 : decode code 1052 = .ok (.iconst 1, 1) := by decide +kernel
theorem dL_law_1053 : decode code 1053 = .ok (.iadd, 1) := by decide +kernel
theorem dL_law_1054 : decode code 1054 = .ok (.iaload, 1) := by decide +kernel
theorem dL_law_1055 : decode code 1055 = .ok (.aload_n 0, 1) := by decide +kernel
theorem dL_law_1056 : decode code 1056 = .ok (.iload 4, 2) := by decide +kernel
theorem dL_law_1058 : decode code 1058 = .ok (.iconst 2, 1) := by decide +kernel
theorem dL_law_1059 : decode code 1059 = .ok (.iadd, 1) := by decide +kernel
theorem dL_law_1060 : decode code 1060 = .ok (.iaload, 1) := by decide +kernel
theorem dL_law_1061 : decode code 1061 = .ok (.aload_n 0, 1) := by decide +kernel
theorem dL_law_1062 : decode code 1062 = .ok (.iload 4, 2) := by decide +kernel
theorem dL_law_1064 : decode code 1064 = .ok (.iconst 3, 1) := by decide +kernel
theorem dL_law_1065 : decode code 1065 = .ok (.iadd, 1) := by decide +kernel
theorem dL_law_1066 : decode code 1066 = .ok (.iaload, 1) := by decide +kernel
theorem dL_law_1067 : decode code 1067 = .ok (.aload_n 0, 1) := by decide +kernel
theorem dL_law_1068 : decode code 1068 = .ok (.iload 4, 2) := by decide +kernel
theorem dL_law_1070 : decode code 1070 = .ok (.iconst 4, 1) := by decide +kernel
theorem dL_law_1071 : decode code 1071 = .ok (.iadd, 1) := by decide +kernel
theorem dL_law_1072 : decode code 1072 = .ok (.iaload, 1) := by decide +kernel
theorem dL_law_1073 : decode code 1073 = .ok (.aload_n 0, 1) := by decide +kernel
theorem dL_law_1074 : decode code 1074 = .ok (.iload 4, 2) := by decide +kernel
theorem dL_law_1076 : decode code 1076 = .ok (.iconst 5, 1) := by decide +kernel
theorem dL_law_1077 : decode code 1077 = .ok (.iadd, 1) := by decide +kernel
theorem dL_law_1078 : decode code 1078 = .ok (.iaload, 1) := by decide +kernel
theorem dL_law_1079 : decode code 1079 = .ok (.invokestatic 126, 3) := by decide +kernel
theorem dL_law_1082 : decode code 1082 = .ok (.istore 5, 2) := by decide +kernel
theorem dL_law_1084 : decode code 1084 = .ok (.aload_n 2, 1) := by decide +kernel
theorem dL_law_1085 : decode code 1085 = .ok (.aload_n 0, 1) := by decide +kernel
theorem dL_law_1086 : decode code 1086 = .ok (.iload 4, 2) := by decide +kernel
theorem dL_law_1088 : decode code 1088 = .ok (.iconst 1, 1) := by decide +kernel
theorem dL_law_1089 : decode code 1089 = .ok (.iadd, 1) := by decide +kernel
theorem dL_law_1090 : decode code 1090 = .ok (.iaload, 1) := by decide +kernel
theorem dL_law_1091 : decode code 1091 = .ok (.aload_n 0, 1) := by decide +kernel
theorem dL_law_1092 : decode code 1092 = .ok (.iload 4, 2) := by decide +kernel
theorem dL_law_1094 : decode code 1094 = .ok (.iconst 2, 1) := by decide +kernel
theorem dL_law_1095 : decode code 1095 = .ok (.iadd, 1) := by decide +kernel
theorem dL_law_1096 : decode code 1096 = .ok (.iaload, 1) := by decide +kernel
theorem dL_law_1097 : decode code 1097 = .ok (.aload_n 0, 1) := by decide +kernel
theorem dL_law_1098 : decode code 1098 = .ok (.iload 4, 2) := by decide +kernel
theorem dL_law_1100 : decode code 1100 = .ok (.iconst 3, 1) := by decide +kernel
theorem dL_law_1101 : decode code 1101 = .ok (.iadd, 1) := by decide +kernel
theorem dL_law_1102 : decode code 1102 = .ok (.iaload, 1) := by decide +kernel
theorem dL_law_1103 : decode code 1103 = .ok (.aload_n 0, 1) := by decide +kernel
theorem dL_law_1104 : decode code 1104 = .ok (.iload 4, 2) := by decide +kernel
theorem dL_law_1106 : decode code 1106 = .ok (.iconst 4, 1) := by decide +kernel
theorem dL_law_1107 : decode code 1107 = .ok (.iadd, 1) := by decide +kernel
theorem dL_law_1108 : decode code 1108 = .ok (.iaload, 1) := by decide +kernel
theorem dL_law_1109 : decode code 1109 = .ok (.aload_n 0, 1) := by decide +kernel
theorem dL_law_1110 : decode code 1110 = .ok (.iload 4, 2) := by decide +kernel
theorem dL_law_1112 : decode code 1112 = .ok (.iconst 5, 1) := by decide +kernel
theorem dL_law_1113 : decode code 1113 = .ok (.iadd, 1) := by decide +kernel
theorem dL_law_1114 : decode code 1114 = .ok (.iaload, 1) := by decide +kernel
theorem dL_law_1115 : decode code 1115 = .ok (.invokevirtual 129, 3) := by decide +kernel
theorem dL_law_1118 : decode code 1118 = .ok (.aload_n 2, 1) := by decide +kernel
theorem dL_law_1119 : decode code 1119 = .ok (.invokevirtual 81, 3) := by decide +kernel
theorem dL_law_1122 : decode code 1122 = .ok (.iload 5, 2) := by decide +kernel
theorem dL_law_1124 : decode code 1124 = .ok (.if_icmp .eq 5, 3) := by decide +kernel
theorem dL_law_1127 : decode code 1127 = .ok (.iconst 0, 1) := by decide +kernel
theorem dL_law_1128 : decode code 1128 = .ok (.ireturn, 1) := by decide +kernel
theorem dL_law_1129 : decode code 1129 = .ok (.goto 96, 3) := by decide +kernel
theorem dL_law_1132 : decode code 1132 = .ok (.aload_n 1, 1) := by decide +kernel
theorem dL_law_1133 : decode code 1133 = .ok (.aload_n 0, 1) := by decide +kernel
theorem dL_law_1134 : decode code 1134 = .ok (.iload 4, 2) := by decide +kernel
theorem dL_law_1136 : decode code 1136 = .ok (.iconst 1, 1) := by decide +kernel
theorem dL_law_1137 : decode code 1137 = .ok (.iadd, 1) := by decide +kernel
theorem dL_law_1138 : decode code 1138 = .ok (.iaload, 1) := by decide +kernel
theorem dL_law_1139 : decode code 1139 = .ok (.aload_n 0, 1) := by decide +kernel
theorem dL_law_1140 : decode code 1140 = .ok (.iload 4, 2) := by decide +kernel
theorem dL_law_1142 : decode code 1142 = .ok (.iconst 2, 1) := by decide +kernel
theorem dL_law_1143 : decode code 1143 = .ok (.iadd, 1) := by decide +kernel
theorem dL_law_1144 : decode code 1144 = .ok (.iaload, 1) := by decide +kernel
theorem dL_law_1145 : decode code 1145 = .ok (.aload_n 3, 1) := by decide +kernel
theorem dL_law_1146 : decode code 1146 = .ok (.invokestatic 130, 3) := by decide +kernel
theorem dL_law_1149 : decode code 1149 = .ok (.istore 5, 2) := by decide +kernel
theorem dL_law_1151 : decode code 1151 = .ok (.aload_n 2, 1) := by decide +kernel
theorem dL_law_1152 : decode code 1152 = .ok (.aload_n 0, 1) := by decide +kernel
theorem dL_law_1153 : decode code 1153 = .ok (.iload 4, 2) := by decide +kernel
theorem dL_law_1155 : decode code 1155 = .ok (.iconst 1, 1) := by decide +kernel
theorem dL_law_1156 : decode code 1156 = .ok (.iadd, 1) := by decide +kernel
theorem dL_law_1157 : decode code 1157 = .ok (.iaload, 1) := by decide +kernel
theorem dL_law_1158 : decode code 1158 = .ok (.aload_n 0, 1) := by decide +kernel
theorem dL_law_1159 : decode code 1159 = .ok (.iload 4, 2) := by decide +kernel
theorem dL_law_1161 : decode code 1161 = .ok (.iconst 2, 1) := by decide +kernel
theorem dL_law_1162 : decode code 1162 = .ok (.iadd, 1) := by decide +kernel
theorem dL_law_1163 : decode code 1163 = .ok (.iaload, 1) := by decide +kernel
theorem dL_law_1164 : decode code 1164 = .ok (.invokevirtual 132, 3) := by decide +kernel
theorem dL_law_1167 : decode code 1167 = .ok (.istore 6, 2) := by decide +kernel
theorem dL_law_1169 : decode code 1169 = .ok (.aload_n 2, 1) := by decide +kernel
theorem dL_law_1170 : decode code 1170 = .ok (.invokevirtual 81, 3) := by decide +kernel
theorem dL_law_1173 : decode code 1173 = .ok (.iload 5, 2) := by decide +kernel
theorem dL_law_1175 : decode code 1175 = .ok (.if_icmp .eq 5, 3) := by decide +kernel
theorem dL_law_1178 : decode code 1178 = .ok (.iconst 0, 1) := by decide +kernel
theorem dL_law_1179 : decode code 1179 = .ok (.ireturn, 1) := by decide +kernel
theorem dL_law_1180 : decode code 1180 = .ok (.iload 5, 2) := by decide +kernel
theorem dL_law_1182 : decode code 1182 = .ok (.ifCond .ne 15, 3) := by decide +kernel
theorem dL_law_1185 : decode code 1185 = .ok (.aload_n 3, 1) := by decide +kernel
theorem dL_law_1186 : decode code 1186 = .ok (.iconst 0, 1) := by decide +kernel
theorem dL_law_1187 : decode code 1187 = .ok (.laload, 1) := by decide +kernel
theorem dL_law_1188 : decode code 1188 = .ok (.iload 6, 2) := by decide +kernel
theorem dL_law_1190 : decode code 1190 = .ok (.i2l, 1) := by decide +kernel
theorem dL_law_1191 : decode code 1191 = .ok (.lcmp, 1) := by decide +kernel
theorem dL_law_1192 : decode code 1192 = .ok (.ifCond .eq 5, 3) := by decide +kernel
theorem dL_law_1195 : decode code 1195 = .ok (.iconst 0, 1) := by decide +kernel
theorem dL_law_1196 : decode code 1196 = .ok (.ireturn, 1) := by decide +kernel
theorem dL_law_1197 : decode code 1197 = .ok (.goto 28, 3) := by decide +kernel
theorem dL_law_1200 : decode code 1200 = .ok (.aload_n 1, 1) := by decide +kernel
theorem dL_law_1201 : decode code 1201 = .ok (.aload_n 0, 1) := by decide +kernel
theorem dL_law_1202 : decode code 1202 = .ok (.iload 4, 2) := by decide +kernel
theorem dL_law_1204 : decode code 1204 = .ok (.iconst 1, 1) := by decide +kernel
theorem dL_law_1205 : decode code 1205 = .ok (.iadd, 1) := by decide +kernel
theorem dL_law_1206 : decode code 1206 = .ok (.iaload, 1) := by decide +kernel
theorem dL_law_1207 : decode code 1207 = .ok (.invokevirtual 133, 3) := by decide +kernel
theorem dL_law_1210 : decode code 1210 = .ok (.aload_n 2, 1) := by decide +kernel
theorem dL_law_1211 : decode code 1211 = .ok (.aload_n 0, 1) := by decide +kernel
theorem dL_law_1212 : decode code 1212 = .ok (.iload 4, 2) := by decide +kernel
theorem dL_law_1214 : decode code 1214 = .ok (.iconst 1, 1) := by decide +kernel
theorem dL_law_1215 : decode code 1215 = .ok (.iadd, 1) := by decide +kernel
theorem dL_law_1216 : decode code 1216 = .ok (.iaload, 1) := by decide +kernel
theorem dL_law_1217 : decode code 1217 = .ok (.invokevirtual 136, 3) := by decide +kernel
theorem dL_law_1220 : decode code 1220 = .ok (.if_icmp .eq 5, 3) := by decide +kernel
theorem dL_law_1223 : decode code 1223 = .ok (.iconst 0, 1) := by decide +kernel
theorem dL_law_1224 : decode code 1224 = .ok (.ireturn, 1) := by decide +kernel
theorem dL_law_1225 : decode code 1225 = .ok (.iinc 4 6, 3) := by decide +kernel
theorem dL_law_1228 : decode code 1228 = .ok (.goto (-1205), 3) := by decide +kernel
theorem dL_law_1231 : decode code 1231 = .ok (.iconst 1, 1) := by decide +kernel
theorem dL_law_1232 : decode code 1232 = .ok (.ireturn, 1) := by decide +kernel

theorem dL_law_40 : decode code 40 = .ok (.tableswitch 1185 0 14 #[76, 176, 244, 348, 384, 468, 564, 644, 700, 780, 848, 916, 1008, 1092, 1160], 76) := by decide +kernel
