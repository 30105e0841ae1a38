theorem dX2_lay_65 : decode cX2_lay 65 = .ok (.i2l, 1) := by decide +kernel
theorem dX2_lay_66 : decode cX2_lay 66 = .ok (.goto 5, 3) := by decide +kernel
theorem dX2_lay_69 : decode cX2_lay 69 = .ok (.lload 10, 2) := by decide +kernel
theorem dX2_lay_71 : decode cX2_lay 71 = .ok (.invokevirtual 46, 3) := by decide +kernel
theorem dX2_lay_74 : decode cX2_lay 74 = .ok (.pop, 1) := by decide +kernel
theorem dX2_lay_75 : decode cX2_lay 75 = .ok (.lload 10, 2) := by decide +kernel
theorem dX2_lay_77 : decode cX2_lay 77 = .ok (.lload 6, 2) := by decide +kernel
theorem dX2_lay_79 : decode cX2_lay 79 = .ok (.ladd, 1) := by decide +kernel
theorem dX2_lay_80 : decode cX2_lay 80 = .ok (.lstore 10, 2) := by decide +kernel
theorem dX2_lay_82 : decode cX2_lay 82 = .ok (.iinc 12 1, 3) := by decide +kernel
theorem dX2_lay_85 : decode cX2_lay 85 = .ok (.goto (-38), 3) := by decide +kernel
theorem dX2_lay_88 : decode cX2_lay 88 = .ok (.iload 9, 2) := by decide +kernel
theorem dX2_lay_90 : decode cX2_lay 90 = .ok (.ireturn, 1) := by decide +kernel
theorem dX2_turn_0 : decode cX2_turn 0 = .ok (.aload_n 0, 1) := by decide +kernel
theorem dX2_turn_1 : decode cX2_turn 1 = .ok (.iload_n 1, 1) := by decide +kernel
theorem dX2_turn_2 : decode cX2_turn 2 = .ok (.iload_n 2, 1) := by decide +kernel
theorem dX2_turn_3 : decode cX2_turn 3 = .ok (.invokevirtual 42, 3) := by decide +kernel
theorem dX2_turn_6 : decode cX2_turn 6 = .ok (.astore_n 3, 1) := by decide +kernel
theorem dX2_turn_7 : decode cX2_turn 7 = .ok (.aload_n 3, 1) := by decide +kernel
theorem dX2_turn_8 : decode cX2_turn 8 = .ok (.invokevirtual 64, 3) := by decide +kernel
theorem dX2_turn_11 : decode cX2_turn 11 = .ok (.aload_n 3, 1) := by decide +kernel
theorem dX2_turn_12 : decode cX2_turn 12 = .ok (.getfield 55, 3) := by decide +kernel
theorem dX2_turn_15 : decode cX2_turn 15 = .ok (.ireturn, 1) := by decide +kernel
theorem dX2_length_0 : decode cX2_length 0 = .ok (.aload_n 0, 1) := by decide +kernel
theorem dX2_length_1 : decode cX2_length 1 = .ok (.iload_n 1, 1) := by decide +kernel
theorem dX2_length_2 : decode cX2_length 2 = .ok (.iload_n 2, 1) := by decide +kernel
theorem dX2_length_3 : decode cX2_length 3 = .ok (.invokevirtual 42, 3) := by decide +kernel
theorem dX2_length_6 : decode cX2_length 6 = .ok (.getfield 55, 3) := by decide +kernel
theorem dX2_length_9 : decode cX2_length 9 = .ok (.ireturn, 1) := by decide +kernel
theorem dX2_number_0 : decode cX2_number 0 = .ok (.aload_n 0, 1) := by decide +kernel
theorem dX2_number_1 : decode cX2_number 1 = .ok (.iload_n 1, 1) := by decide +kernel
theorem dX2_number_2 : decode cX2_number 2 = .ok (.iload_n 2, 1) := by decide +kernel
theorem dX2_number_3 : decode cX2_number 3 = .ok (.invokevirtual 42, 3) := by decide +kernel
theorem dX2_number_6 : decode cX2_number 6 = .ok (.astore 4, 2) := by decide +kernel
theorem dX2_number_8 : decode cX2_number 8 = .ok (.iload_n 3, 1) := by decide +kernel
theorem dX2_number_9 : decode cX2_number 9 = .ok (.ifCond .lt 12, 3) := by decide +kernel
theorem dX2_number_12 : decode cX2_number 12 = .ok (.iload_n 3, 1) := by decide +kernel
theorem dX2_number_13 : decode cX2_number 13 = .ok (.aload 4, 2) := by decide +kernel
theorem dX2_number_15 : decode cX2_number 15 = .ok (.getfield 55, 3) := by decide +kernel
theorem dX2_number_18 : decode cX2_number 18 = .ok (.if_icmp .lt 13, 3) := by decide +kernel
theorem dX2_number_21 : decode cX2_number 21 = .ok (.new 67, 3) := by decide +kernel
theorem dX2_number_24 : decode cX2_number 24 = .ok (.dup, 1) := by decide +kernel
theorem dX2_number_25 : decode cX2_number 25 = .ok (.ldc 69, 2) := by decide +kernel
theorem dX2_number_27 : decode cX2_number 27 = .ok (.invokespecial 71, 3) := by decide +kernel
theorem dX2_number_30 : decode cX2_number 30 = .ok (.athrow, 1) := by decide +kernel
theorem dX2_number_31 : decode cX2_number 31 = .ok (.aload 4, 2) := by decide +kernel
theorem dX2_number_33 : decode cX2_number 33 = .ok (.iload_n 3, 1) := by decide +kernel
theorem dX2_number_34 : decode cX2_number 34 = .ok (.invokevirtual 72, 3) := by decide +kernel
theorem dX2_number_37 : decode cX2_number 37 = .ok (.lreturn, 1) := by decide +kernel
theorem dX2_open_0 : decode cX2_open 0 = .ok (.aload_n 0, 1) := by decide +kernel
theorem dX2_open_1 : decode cX2_open 1 = .ok (.iload_n 2, 1) := by decide +kernel
theorem dX2_open_2 : decode cX2_open 2 = .ok (.iload_n 3, 1) := by decide +kernel
theorem dX2_open_3 : decode cX2_open 3 = .ok (.invokevirtual 42, 3) := by decide +kernel
theorem dX2_open_6 : decode cX2_open 6 = .ok (.astore 6, 2) := by decide +kernel
theorem dX2_open_8 : decode cX2_open 8 = .ok (.aload_n 0, 1) := by decide +kernel
theorem dX2_open_9 : decode cX2_open 9 = .ok (.iload_n 1, 1) := by decide +kernel
theorem dX2_open_10 : decode cX2_open 10 = .ok (.invokevirtual 76, 3) := by decide +kernel
theorem dX2_open_13 : decode cX2_open 13 = .ok (.astore 7, 2) := by decide +kernel
theorem dX2_open_15 : decode cX2_open 15 = .ok (.iload 4, 2) := by decide +kernel
theorem dX2_open_17 : decode cX2_open 17 = .ok (.ifCond .lt 20, 3) := by decide +kernel
theorem dX2_open_20 : decode cX2_open 20 = .ok (.iload 4, 2) := by decide +kernel
theorem dX2_open_22 : decode cX2_open 22 = .ok (.iload 5, 2) := by decide +kernel
theorem dX2_open_24 : decode cX2_open 24 = .ok (.if_icmp .gt 13, 3) := by decide +kernel
theorem dX2_open_27 : decode cX2_open 27 = .ok (.iload 5, 2) := by decide +kernel
theorem dX2_open_29 : decode cX2_open 29 = .ok (.aload 6, 2) := by decide +kernel
theorem dX2_open_31 : decode cX2_open 31 = .ok (.getfield 55, 3) := by decide +kernel
theorem dX2_open_34 : decode cX2_open 34 = .ok (.if_icmp .le 13, 3) := by decide +kernel
theorem dX2_open_37 : decode cX2_open 37 = .ok (.new 67, 3) := by decide +kernel
theorem dX2_open_40 : decode cX2_open 40 = .ok (.dup, 1) := by decide +kernel
theorem dX2_open_41 : decode cX2_open 41 = .ok (.ldc 80, 2) := by decide +kernel
theorem dX2_open_43 : decode cX2_open 43 = .ok (.invokespecial 71, 3) := by decide +kernel
theorem dX2_open_46 : decode cX2_open 46 = .ok (.athrow, 1) := by decide +kernel
theorem dX2_open_47 : decode cX2_open 47 = .ok (.aload 7, 2) := by decide +kernel
theorem dX2_open_49 : decode cX2_open 49 = .ok (.aload 6, 2) := by decide +kernel
theorem dX2_open_51 : decode cX2_open 51 = .ok (.iload 4, 2) := by decide +kernel
theorem dX2_open_53 : decode cX2_open 53 = .ok (.iload 5, 2) := by decide +kernel
theorem dX2_open_55 : decode cX2_open 55 = .ok (.iload_n 2, 1) := by decide +kernel
theorem dX2_open_56 : decode cX2_open 56 = .ok (.bipush 111, 2) := by decide +kernel
theorem dX2_open_58 : decode cX2_open 58 = .ok (.if_icmp .ne 7, 3) := by decide +kernel
theorem dX2_open_61 : decode cX2_open 61 = .ok (.iconst 1, 1) := by decide +kernel
theorem dX2_open_62 : decode cX2_open 62 = .ok (.goto 4, 3) := by decide +kernel
theorem dX2_open_65 : decode cX2_open 65 = .ok (.iconst 0, 1) := by decide +kernel
theorem dX2_open_66 : decode cX2_open 66 = .ok (.invokevirtual 82, 3) := by decide +kernel
theorem dX2_open_69 : decode cX2_open 69 = .ok (.aload 7, 2) := by decide +kernel
theorem dX2_open_71 : decode cX2_open 71 = .ok (.getfield 86, 3) := by decide +kernel
theorem dX2_open_74 : decode cX2_open 74 = .ok (.ireturn, 1) := by decide +kernel
theorem dX2_openAll_0 : decode cX2_openAll 0 = .ok (.aload_n 0, 1) := by decide +kernel
theorem dX2_openAll_1 : decode cX2_openAll 1 = .ok (.iload_n 2, 1) := by decide +kernel
theorem dX2_openAll_2 : decode cX2_openAll 2 = .ok (.iload_n 3, 1) := by decide +kernel
theorem dX2_openAll_3 : decode cX2_openAll 3 = .ok (.invokevirtual 42, 3) := by decide +kernel
theorem dX2_openAll_6 : decode cX2_openAll 6 = .ok (.astore 4, 2) := by decide +kernel
theorem dX2_openAll_8 : decode cX2_openAll 8 = .ok (.aload_n 0, 1) := by decide +kernel
theorem dX2_openAll_9 : decode cX2_openAll 9 = .ok (.iload_n 1, 1) := by decide +kernel
theorem dX2_openAll_10 : decode cX2_openAll 10 = .ok (.invokevirtual 76, 3) := by decide +kernel
theorem dX2_openAll_13 : decode cX2_openAll 13 = .ok (.astore 5, 2) := by decide +kernel
theorem dX2_openAll_15 : decode cX2_openAll 15 = .ok (.aload 5, 2) := by decide +kernel
theorem dX2_openAll_17 : decode cX2_openAll 17 = .ok (.aload 4, 2) := by decide +kernel
theorem dX2_openAll_19 : decode cX2_openAll 19 = .ok (.iconst 0, 1) := by decide +kernel
theorem dX2_openAll_20 : decode cX2_openAll 20 = .ok (.aload 4, 2) := by decide +kernel
theorem dX2_openAll_22 : decode cX2_openAll 22 = .ok (.getfield 55, 3) := by decide +kernel
theorem dX2_openAll_25 : decode cX2_openAll 25 = .ok (.iload_n 2, 1) := by decide +kernel
theorem dX2_openAll_26 : decode cX2_openAll 26 = .ok (.bipush 111, 2) := by decide +kernel
theorem dX2_openAll_28 : decode cX2_openAll 28 = .ok (.if_icmp .ne 7, 3) := by decide +kernel
theorem dX2_openAll_31 : decode cX2_openAll 31 = .ok (.iconst 1, 1) := by decide +kernel
theorem dX2_openAll_32 : decode cX2_openAll 32 = .ok (.goto 4, 3) := by decide +kernel
theorem dX2_openAll_35 : decode cX2_openAll 35 = .ok (.iconst 0, 1) := by decide +kernel
theorem dX2_openAll_36 : decode cX2_openAll 36 = .ok (.invokevirtual 82, 3) := by decide +kernel
theorem dX2_openAll_39 : decode cX2_openAll 39 = .ok (.aload 5, 2) := by decide +kernel
theorem dX2_openAll_41 : decode cX2_openAll 41 = .ok (.getfield 86, 3) := by decide +kernel
theorem dX2_openAll_44 : decode cX2_openAll 44 = .ok (.ireturn, 1) := by decide +kernel
theorem dX2_items_0 : decode cX2_items 0 = .ok (.aload_n 0, 1) := by decide +kernel
theorem dX2_items_1 : decode cX2_items 1 = .ok (.iload_n 1, 1) := by decide +kernel
theorem dX2_items_2 : decode cX2_items 2 = .ok (.invokevirtual 76, 3) := by decide +kernel
theorem dX2_items_5 : decode cX2_items 5 = .ok (.getfield 89, 3) := by decide +kernel
theorem dX2_items_8 : decode cX2_items 8 = .ok (.ireturn, 1) := by decide +kernel
theorem dX2_kindOf_0 : decode cX2_kindOf 0 = .ok (.aload_n 0, 1) := by decide +kernel
theorem dX2_kindOf_1 : decode cX2_kindOf 1 = .ok (.iload_n 1, 1) := by decide +kernel
theorem dX2_kindOf_2 : decode cX2_kindOf 2 = .ok (.iload_n 2, 1) := by decide +kernel
theorem dX2_kindOf_3 : decode cX2_kindOf 3 = .ok (.invokevirtual 90, 3) := by decide +kernel
theorem dX2_kindOf_6 : decode cX2_kindOf 6 = .ok (.getfield 94, 3) := by decide +kernel
theorem dX2_kindOf_9 : decode cX2_kindOf 9 = .ok (.iload_n 2, 1) := by decide +kernel
theorem dX2_kindOf_10 : decode cX2_kindOf 10 = .ok (.iaload, 1) := by decide +kernel
theorem dX2_kindOf_11 : decode cX2_kindOf 11 = .ok (.i2c, 1) := by decide +kernel
theorem dX2_kindOf_12 : decode cX2_kindOf 12 = .ok (.ireturn, 1) := by decide +kernel
theorem dX2_given_0 : decode cX2_given 0 = .ok (.aload_n 0, 1) := by decide +kernel
theorem dX2_given_1 : decode cX2_given 1 = .ok (.iload_n 1, 1) := by decide +kernel
theorem dX2_given_2 : decode cX2_given 2 = .ok (.iload_n 2, 1) := by decide +kernel
theorem dX2_given_3 : decode cX2_given 3 = .ok (.invokevirtual 90, 3) := by decide +kernel
theorem dX2_given_6 : decode cX2_given 6 = .ok (.astore_n 3, 1) := by decide +kernel
theorem dX2_given_7 : decode cX2_given 7 = .ok (.aload_n 3, 1) := by decide +kernel
theorem dX2_given_8 : decode cX2_given 8 = .ok (.iload_n 2, 1) := by decide +kernel
theorem dX2_given_9 : decode cX2_given 9 = .ok (.invokevirtual 98, 3) := by decide +kernel
theorem dX2_given_12 : decode cX2_given 12 = .ok (.ifCond .ne 13, 3) := by decide +kernel
theorem dX2_given_15 : decode cX2_given 15 = .ok (.new 50, 3) := by decide +kernel
theorem dX2_given_18 : decode cX2_given 18 = .ok (.dup, 1) := by decide +kernel
theorem dX2_given_19 : decode cX2_given 19 = .ok (.ldc 102, 2) := by decide +kernel
theorem dX2_given_21 : decode cX2_given 21 = .ok (.invokespecial 54, 3) := by decide +kernel
theorem dX2_given_24 : decode cX2_given 24 = .ok (.athrow, 1) := by decide +kernel
theorem dX2_given_25 : decode cX2_given 25 = .ok (.aload_n 3, 1) := by decide +kernel
theorem dX2_given_26 : decode cX2_given 26 = .ok (.getfield 104, 3) := by decide +kernel
theorem dX2_given_29 : decode cX2_given 29 = .ok (.iload_n 2, 1) := by decide +kernel
theorem dX2_given_30 : decode cX2_given 30 = .ok (.laload, 1) := by decide +kernel
theorem dX2_given_31 : decode cX2_given 31 = .ok (.lreturn, 1) := by decide +kernel
theorem dX2_left_0 : decode cX2_left 0 = .ok (.aload_n 0, 1) := by decide +kernel
theorem dX2_left_1 : decode cX2_left 1 = .ok (.iload_n 1, 1) := by decide +kernel
theorem dX2_left_2 : decode cX2_left 2 = .ok (.iload_n 2, 1) := by decide +kernel
theorem dX2_left_3 : decode cX2_left 3 = .ok (.invokevirtual 108, 3) := by decide +kernel
theorem dX2_left_6 : decode cX2_left 6 = .ok (.iload_n 2, 1) := by decide +kernel
theorem dX2_left_7 : decode cX2_left 7 = .ok (.invokevirtual 111, 3) := by decide +kernel
theorem dX2_left_10 : decode cX2_left 10 = .ok (.ireturn, 1) := by decide +kernel
theorem dX2_ahead_0 : decode cX2_ahead 0 = .ok (.aload_n 0, 1) := by decide +kernel
theorem dX2_ahead_1 : decode cX2_ahead 1 = .ok (.iload_n 1, 1) := by decide +kernel
theorem dX2_ahead_2 : decode cX2_ahead 2 = .ok (.iload_n 2, 1) := by decide +kernel
theorem dX2_ahead_3 : decode cX2_ahead 3 = .ok (.invokevirtual 90, 3) := by decide +kernel
theorem dX2_ahead_6 : decode cX2_ahead 6 = .ok (.iload_n 2, 1) := by decide +kernel
theorem dX2_ahead_7 : decode cX2_ahead 7 = .ok (.invokevirtual 115, 3) := by decide +kernel
theorem dX2_ahead_10 : decode cX2_ahead 10 = .ok (.ireturn, 1) := by decide +kernel
theorem dX2_has_0 : decode cX2_has 0 = .ok (.aload_n 0, 1) := by decide +kernel
theorem dX2_has_1 : decode cX2_has 1 = .ok (.iload_n 1, 1) := by decide +kernel
theorem dX2_has_2 : decode cX2_has 2 = .ok (.iload_n 2, 1) := by decide +kernel
theorem dX2_has_3 : decode cX2_has 3 = .ok (.invokevirtual 118, 3) := by decide +kernel
theorem dX2_has_6 : decode cX2_has 6 = .ok (.astore 4, 2) := by decide +kernel
theorem dX2_has_8 : decode cX2_has 8 = .ok (.iload_n 3, 1) := by decide +kernel
theorem dX2_has_9 : decode cX2_has 9 = .ok (.invokestatic 121, 3) := by decide +kernel
theorem dX2_has_12 : decode cX2_has 12 = .ok (.istore 5, 2) := by decide +kernel
theorem dX2_has_14 : decode cX2_has 14 = .ok (.iload 5, 2) := by decide +kernel
theorem dX2_has_16 : decode cX2_has 16 = .ok (.ifCond .ne 13, 3) := by decide +kernel
theorem dX2_has_19 : decode cX2_has 19 = .ok (.new 35, 3) := by decide +kernel
theorem dX2_has_22 : decode cX2_has 22 = .ok (.dup, 1) := by decide +kernel
theorem dX2_has_23 : decode cX2_has 23 = .ok (.ldc 125, 2) := by decide +kernel
theorem dX2_has_25 : decode cX2_has 25 = .ok (.invokespecial 39, 3) := by decide +kernel
theorem dX2_has_28 : decode cX2_has 28 = .ok (.athrow, 1) := by decide +kernel
theorem dX2_has_29 : decode cX2_has 29 = .ok (.aload 4, 2) := by decide +kernel
theorem dX2_has_31 : decode cX2_has 31 = .ok (.iload_n 2, 1) := by decide +kernel
theorem dX2_has_32 : decode cX2_has 32 = .ok (.iload 5, 2) := by decide +kernel
theorem dX2_has_34 : decode cX2_has 34 = .ok (.invokevirtual 127, 3) := by decide +kernel
theorem dX2_has_37 : decode cX2_has 37 = .ok (.ireturn, 1) := by decide +kernel
theorem dX2_isExact_0 : decode cX2_isExact 0 = .ok (.aload_n 0, 1) := by decide +kernel
theorem dX2_isExact_1 : decode cX2_isExact 1 = .ok (.iload_n 1, 1) := by decide +kernel
theorem dX2_isExact_2 : decode cX2_isExact 2 = .ok (.iload_n 2, 1) := by decide +kernel
theorem dX2_isExact_3 : decode cX2_isExact 3 = .ok (.invokevirtual 118, 3) := by decide +kernel
theorem dX2_isExact_6 : decode cX2_isExact 6 = .ok (.iload_n 2, 1) := by decide +kernel
theorem dX2_isExact_7 : decode cX2_isExact 7 = .ok (.bipush 64, 2) := by decide +kernel
theorem dX2_isExact_9 : decode cX2_isExact 9 = .ok (.invokevirtual 127, 3) := by decide +kernel
theorem dX2_isExact_12 : decode cX2_isExact 12 = .ok (.ireturn, 1) := by decide +kernel
theorem dX2_split_0 : decode cX2_split 0 = .ok (.aload_n 0, 1) := by decide +kernel
theorem dX2_split_1 : decode cX2_split 1 = .ok (.iload_n 1, 1) := by decide +kernel
theorem dX2_split_2 : decode cX2_split 2 = .ok (.iload_n 2, 1) := by decide +kernel
theorem dX2_split_3 : decode cX2_split 3 = .ok (.invokevirtual 118, 3) := by decide +kernel
theorem dX2_split_6 : decode cX2_split 6 = .ok (.iload_n 2, 1) := by decide +kernel
theorem dX2_split_7 : decode cX2_split 7 = .ok (.invokevirtual 131, 3) := by decide +kernel
theorem dX2_split_10 : decode cX2_split 10 = .ok (.ireturn, 1) := by decide +kernel
theorem dX2_step_0 : decode cX2_step 0 = .ok (.aload_n 0, 1) := by decide +kernel
theorem dX2_step_1 : decode cX2_step 1 = .ok (.iload_n 1, 1) := by decide +kernel
theorem dX2_step_2 : decode cX2_step 2 = .ok (.iload_n 2, 1) := by decide +kernel
theorem dX2_step_3 : decode cX2_step 3 = .ok (.invokevirtual 108, 3) := by decide +kernel
theorem dX2_step_6 : decode cX2_step 6 = .ok (.iload_n 2, 1) := by decide +kernel
theorem dX2_step_7 : decode cX2_step 7 = .ok (.iconst 1, 1) := by decide +kernel
theorem dX2_step_8 : decode cX2_step 8 = .ok (.invokevirtual 134, 3) := by decide +kernel
theorem dX2_step_11 : decode cX2_step 11 = .ok (.iconst 1, 1) := by decide +kernel
theorem dX2_step_12 : decode cX2_step 12 = .ok (.if_icmp .ne 7, 3) := by decide +kernel
theorem dX2_step_15 : decode cX2_step 15 = .ok (.iconst 1, 1) := by decide +kernel
theorem dX2_step_16 : decode cX2_step 16 = .ok (.goto 4, 3) := by decide +kernel
theorem dX2_step_19 : decode cX2_step 19 = .ok (.iconst 0, 1) := by decide +kernel
theorem dX2_step_20 : decode cX2_step 20 = .ok (.ireturn, 1) := by decide +kernel
theorem dX2_drain_0 : decode cX2_drain 0 = .ok (.aload_n 0, 1) := by decide +kernel
theorem dX2_drain_1 : decode cX2_drain 1 = .ok (.iload_n 1, 1) := by decide +kernel
theorem dX2_drain_2 : decode cX2_drain 2 = .ok (.iload_n 2, 1) := by decide +kernel
theorem dX2_drain_3 : decode cX2_drain 3 = .ok (.invokevirtual 108, 3) := by decide +kernel
theorem dX2_drain_6 : decode cX2_drain 6 = .ok (.iload_n 2, 1) := by decide +kernel
theorem dX2_drain_7 : decode cX2_drain 7 = .ok (.bipush 48, 2) := by decide +kernel
theorem dX2_drain_9 : decode cX2_drain 9 = .ok (.invokevirtual 134, 3) := by decide +kernel
theorem dX2_drain_12 : decode cX2_drain 12 = .ok (.ireturn, 1) := by decide +kernel
theorem dX2_iterate_0 : decode cX2_iterate 0 = .ok (.aload_n 0, 1) := by decide +kernel
theorem dX2_iterate_1 : decode cX2_iterate 1 = .ok (.iload_n 1, 1) := by decide +kernel
theorem dX2_iterate_2 : decode cX2_iterate 2 = .ok (.iload_n 2, 1) := by decide +kernel
theorem dX2_iterate_3 : decode cX2_iterate 3 = .ok (.invokevirtual 118, 3) := by decide +kernel
theorem dX2_iterate_6 : decode cX2_iterate 6 = .ok (.astore_n 3, 1) := by decide +kernel
theorem dX2_iterate_7 : decode cX2_iterate 7 = .ok (.aload_n 3, 1) := by decide +kernel
theorem dX2_iterate_8 : decode cX2_iterate 8 = .ok (.getfield 138, 3) := by decide +kernel
theorem dX2_iterate_11 : decode cX2_iterate 11 = .ok (.ifCond .eq 13, 3) := by decide +kernel
theorem dX2_iterate_14 : decode cX2_iterate 14 = .ok (.new 142, 3) := by decide +kernel
theorem dX2_iterate_17 : decode cX2_iterate 17 = .ok (.dup, 1) := by decide +kernel
theorem dX2_iterate_18 : decode cX2_iterate 18 = .ok (.ldc 144, 2) := by decide +kernel
theorem dX2_iterate_20 : decode cX2_iterate 20 = .ok (.invokespecial 146, 3) := by decide +kernel
theorem dX2_iterate_23 : decode cX2_iterate 23 = .ok (.athrow, 1) := by decide +kernel
theorem dX2_iterate_24 : decode cX2_iterate 24 = .ok (.aload_n 3, 1) := by decide +kernel
theorem dX2_iterate_25 : decode cX2_iterate 25 = .ok (.getfield 94, 3) := by decide +kernel
theorem dX2_iterate_28 : decode cX2_iterate 28 = .ok (.iload_n 2, 1) := by decide +kernel
theorem dX2_iterate_29 : decode cX2_iterate 29 = .ok (.bipush 116, 2) := by decide +kernel
theorem dX2_iterate_31 : decode cX2_iterate 31 = .ok (.iastore, 1) := by decide +kernel
theorem dX2_iterate_32 : decode cX2_iterate 32 = .ok (.aload_n 3, 1) := by decide +kernel
theorem dX2_iterate_33 : decode cX2_iterate 33 = .ok (.iload_n 2, 1) := by decide +kernel
theorem dX2_iterate_34 : decode cX2_iterate 34 = .ok (.invokevirtual 111, 3) := by decide +kernel
theorem dX2_iterate_37 : decode cX2_iterate 37 = .ok (.ireturn, 1) := by decide +kernel
theorem dX2_hasNext_0 : decode cX2_hasNext 0 = .ok (.aload_n 0, 1) := by decide +kernel
theorem dX2_hasNext_1 : decode cX2_hasNext 1 = .ok (.iload_n 1, 1) := by decide +kernel
theorem dX2_hasNext_2 : decode cX2_hasNext 2 = .ok (.iload_n 2, 1) := by decide +kernel
theorem dX2_hasNext_3 : decode cX2_hasNext 3 = .ok (.invokevirtual 90, 3) := by decide +kernel
theorem dX2_hasNext_6 : decode cX2_hasNext 6 = .ok (.astore_n 3, 1) := by decide +kernel
theorem dX2_hasNext_7 : decode cX2_hasNext 7 = .ok (.aload_n 3, 1) := by decide +kernel
theorem dX2_hasNext_8 : decode cX2_hasNext 8 = .ok (.getfield 94, 3) := by decide +kernel
theorem dX2_hasNext_11 : decode cX2_hasNext 11 = .ok (.iload_n 2, 1) := by decide +kernel
theorem dX2_hasNext_12 : decode cX2_hasNext 12 = .ok (.iaload, 1) := by decide +kernel
theorem dX2_hasNext_13 : decode cX2_hasNext 13 = .ok (.bipush 116, 2) := by decide +kernel
theorem dX2_hasNext_15 : decode cX2_hasNext 15 = .ok (.if_icmp .eq 13, 3) := by decide +kernel
theorem dX2_hasNext_18 : decode cX2_hasNext 18 = .ok (.new 50, 3) := by decide +kernel
theorem dX2_hasNext_21 : decode cX2_hasNext 21 = .ok (.dup, 1) := by decide +kernel
theorem dX2_hasNext_22 : decode cX2_hasNext 22 = .ok (.ldc 147, 2) := by decide +kernel
theorem dX2_hasNext_24 : decode cX2_hasNext 24 = .ok (.invokespecial 54, 3) := by decide +kernel
theorem dX2_hasNext_27 : decode cX2_hasNext 27 = .ok (.athrow, 1) := by decide +kernel
theorem dX2_hasNext_28 : decode cX2_hasNext 28 = .ok (.aload_n 3, 1) := by decide +kernel
theorem dX2_hasNext_29 : decode cX2_hasNext 29 = .ok (.iload_n 2, 1) := by decide +kernel
theorem dX2_hasNext_30 : decode cX2_hasNext 30 = .ok (.invokevirtual 111, 3) := by decide +kernel
theorem dX2_hasNext_33 : decode cX2_hasNext 33 = .ok (.ifCond .le 7, 3) := by decide +kernel
theorem dX2_hasNext_36 : decode cX2_hasNext 36 = .ok (.iconst 1, 1) := by decide +kernel
theorem dX2_hasNext_37 : decode cX2_hasNext 37 = .ok (.goto 4, 3) := by decide +kernel
theorem dX2_hasNext_40 : decode cX2_hasNext 40 = .ok (.iconst 0, 1) := by decide +kernel
theorem dX2_hasNext_41 : decode cX2_hasNext 41 = .ok (.ireturn, 1) := by decide +kernel
theorem dX2_crumble_0 : decode cX2_crumble 0 = .ok (.aload_n 0, 1) := by decide +kernel
theorem dX2_crumble_1 : decode cX2_crumble 1 = .ok (.iload_n 1, 1) := by decide +kernel
theorem dX2_crumble_2 : decode cX2_crumble 2 = .ok (.invokevirtual 76, 3) := by decide +kernel
theorem dX2_crumble_5 : decode cX2_crumble 5 = .ok (.astore_n 3, 1) := by decide +kernel
theorem dX2_crumble_6 : decode cX2_crumble 6 = .ok (.iload_n 2, 1) := by decide +kernel
theorem dX2_crumble_7 : decode cX2_crumble 7 = .ok (.invokestatic 149, 3) := by decide +kernel
theorem dX2_crumble_10 : decode cX2_crumble 10 = .ok (.aload_n 3, 1) := by decide +kernel
theorem dX2_crumble_11 : decode cX2_crumble 11 = .ok (.iload_n 2, 1) := by decide +kernel
theorem dX2_crumble_12 : decode cX2_crumble 12 = .ok (.invokevirtual 153, 3) := by decide +kernel
theorem dX2_crumble_15 : decode cX2_crumble 15 = .ok (.ireturn, 1) := by decide +kernel
theorem dX2_sweep_0 : decode cX2_sweep 0 = .ok (.aload_n 0, 1) := by decide +kernel
theorem dX2_sweep_1 : decode cX2_sweep 1 = .ok (.iload_n 1, 1) := by decide +kernel
theorem dX2_sweep_2 : decode cX2_sweep 2 = .ok (.invokevirtual 76, 3) := by decide +kernel
theorem dX2_sweep_5 : decode cX2_sweep 5 = .ok (.invokevirtual 156, 3) := by decide +kernel
theorem dX2_sweep_8 : decode cX2_sweep 8 = .ok (.ireturn, 1) := by decide +kernel
theorem dX2_isRead_0 : decode cX2_isRead 0 = .ok (.aload_n 0, 1) := by decide +kernel
theorem dX2_isRead_1 : decode cX2_isRead 1 = .ok (.iload_n 1, 1) := by decide +kernel
theorem dX2_isRead_2 : decode cX2_isRead 2 = .ok (.invokevirtual 76, 3) := by decide +kernel
theorem dX2_isRead_5 : decode cX2_isRead 5 = .ok (.invokevirtual 160, 3) := by decide +kernel
theorem dX2_isRead_8 : decode cX2_isRead 8 = .ok (.ireturn, 1) := by decide +kernel
theorem dX2_fold_0 : decode cX2_fold 0 = .ok (.iload_n 3, 1) := by decide +kernel
theorem dX2_fold_1 : decode cX2_fold 1 = .ok (.invokestatic 149, 3) := by decide +kernel
theorem dX2_fold_4 : decode cX2_fold 4 = .ok (.getstatic 164, 3) := by decide +kernel
theorem dX2_fold_7 : decode cX2_fold 7 = .ok (.iload 4, 2) := by decide +kernel
theorem dX2_fold_9 : decode cX2_fold 9 = .ok (.invokestatic 167, 3) := by decide +kernel
theorem dX2_fold_12 : decode cX2_fold 12 = .ok (.ifCond .ge 13, 3) := by decide +kernel
theorem dX2_fold_15 : decode cX2_fold 15 = .ok (.new 35, 3) := by decide +kernel
theorem dX2_fold_18 : decode cX2_fold 18 = .ok (.dup, 1) := by decide +kernel
theorem dX2_fold_19 : decode cX2_fold 19 = .ok (.ldc 171, 2) := by decide +kernel
theorem dX2_fold_21 : decode cX2_fold 21 = .ok (.invokespecial 39, 3) := by decide +kernel
theorem dX2_fold_24 : decode cX2_fold 24 = .ok (.athrow, 1) := by decide +kernel
theorem dX2_fold_25 : decode cX2_fold 25 = .ok (.aload_n 0, 1) := by decide +kernel
theorem dX2_fold_26 : decode cX2_fold 26 = .ok (.iload_n 1, 1) := by decide +kernel
theorem dX2_fold_27 : decode cX2_fold 27 = .ok (.iload_n 2, 1) := by decide +kernel
theorem dX2_fold_28 : decode cX2_fold 28 = .ok (.invokevirtual 42, 3) := by decide +kernel
theorem dX2_fold_31 : decode cX2_fold 31 = .ok (.astore 5, 2) := by decide +kernel
theorem dX2_fold_33 : decode cX2_fold 33 = .ok (.aload 5, 2) := by decide +kernel
theorem dX2_fold_35 : decode cX2_fold 35 = .ok (.iconst 0, 1) := by decide +kernel
theorem dX2_fold_36 : decode cX2_fold 36 = .ok (.aload 5, 2) := by decide +kernel
theorem dX2_fold_38 : decode cX2_fold 38 = .ok (.getfield 55, 3) := by decide +kernel
theorem dX2_fold_41 : decode cX2_fold 41 = .ok (.iload_n 3, 1) := by decide +kernel
theorem dX2_fold_42 : decode cX2_fold 42 = .ok (.iload 4, 2) := by decide +kernel
theorem dX2_fold_44 : decode cX2_fold 44 = .ok (.iconst 0, 1) := by decide +kernel
theorem dX2_fold_45 : decode cX2_fold 45 = .ok (.invokestatic 173, 3) := by decide +kernel
theorem dX2_fold_48 : decode cX2_fold 48 = .ok (.lreturn, 1) := by decide +kernel
theorem dX2_pieces_0 : decode cX2_pieces 0 = .ok (.iload_n 3, 1) := by decide +kernel
theorem dX2_pieces_1 : decode cX2_pieces 1 = .ok (.invokestatic 149, 3) := by decide +kernel
theorem dX2_pieces_4 : decode cX2_pieces 4 = .ok (.aload_n 0, 1) := by decide +kernel
theorem dX2_pieces_5 : decode cX2_pieces 5 = .ok (.aload_n 0, 1) := by decide +kernel
theorem dX2_pieces_6 : decode cX2_pieces 6 = .ok (.iload_n 1, 1) := by decide +kernel
theorem dX2_pieces_7 : decode cX2_pieces 7 = .ok (.iload_n 2, 1) := by decide +kernel
theorem dX2_pieces_8 : decode cX2_pieces 8 = .ok (.invokevirtual 42, 3) := by decide +kernel
theorem dX2_pieces_11 : decode cX2_pieces 11 = .ok (.iload_n 3, 1) := by decide +kernel
theorem dX2_pieces_12 : decode cX2_pieces 12 = .ok (.invokevirtual 177, 3) := by decide +kernel
theorem dX2_pieces_15 : decode cX2_pieces 15 = .ok (.ireturn, 1) := by decide +kernel
theorem dX2_share_0 : decode cX2_share 0 = .ok (.aload_n 0, 1) := by decide +kernel
theorem dX2_share_1 : decode cX2_share 1 = .ok (.iload_n 1, 1) := by decide +kernel
theorem dX2_share_2 : decode cX2_share 2 = .ok (.invokevirtual 76, 3) := by decide +kernel
theorem dX2_share_5 : decode cX2_share 5 = .ok (.astore_n 2, 1) := by decide +kernel
theorem dX2_share_6 : decode cX2_share 6 = .ok (.aload_n 2, 1) := by decide +kernel
theorem dX2_share_7 : decode cX2_share 7 = .ok (.getfield 86, 3) := by decide +kernel
theorem dX2_share_10 : decode cX2_share 10 = .ok (.ifCond .ne 13, 3) := by decide +kernel
theorem dX2_share_13 : decode cX2_share 13 = .ok (.new 181, 3) := by decide +kernel
theorem dX2_share_16 : decode cX2_share 16 = .ok (.dup, 1) := by decide +kernel
theorem dX2_share_17 : decode cX2_share 17 = .ok (.ldc 183, 2) := by decide +kernel
theorem dX2_share_19 : decode cX2_share 19 = .ok (.invokespecial 185, 3) := by decide +kernel
theorem dX2_share_22 : decode cX2_share 22 = .ok (.athrow, 1) := by decide +kernel
theorem dX2_share_23 : decode cX2_share 23 = .ok (.aload_n 2, 1) := by decide +kernel
theorem dX2_share_24 : decode cX2_share 24 = .ok (.invokevirtual 186, 3) := by decide +kernel
theorem dX2_share_27 : decode cX2_share 27 = .ok (.i2f, 1) := by decide +kernel
theorem dX2_share_28 : decode cX2_share 28 = .ok (.aload_n 2, 1) := by decide +kernel
theorem dX2_share_29 : decode cX2_share 29 = .ok (.getfield 86, 3) := by decide +kernel
theorem dX2_share_32 : decode cX2_share 32 = .ok (.i2f, 1) := by decide +kernel
theorem dX2_share_33 : decode cX2_share 33 = .ok (.fdiv, 1) := by decide +kernel
theorem dX2_share_34 : decode cX2_share 34 = .ok (.freturn, 1) := by decide +kernel
theorem dX2_meanLeft_0 : decode cX2_meanLeft 0 = .ok (.aload_n 0, 1) := by decide +kernel
theorem dX2_meanLeft_1 : decode cX2_meanLeft 1 = .ok (.iload_n 1, 1) := by decide +kernel
theorem dX2_meanLeft_2 : decode cX2_meanLeft 2 = .ok (.invokevirtual 76, 3) := by decide +kernel
theorem dX2_meanLeft_5 : decode cX2_meanLeft 5 = .ok (.astore_n 2, 1) := by decide +kernel
theorem dX2_meanLeft_6 : decode cX2_meanLeft 6 = .ok (.aload_n 2, 1) := by decide +kernel
theorem dX2_meanLeft_7 : decode cX2_meanLeft 7 = .ok (.getfield 89, 3) := by decide +kernel
theorem dX2_meanLeft_10 : decode cX2_meanLeft 10 = .ok (.aload_n 2, 1) := by decide +kernel
theorem dX2_meanLeft_11 : decode cX2_meanLeft 11 = .ok (.invokevirtual 186, 3) := by decide +kernel
theorem dX2_meanLeft_14 : decode cX2_meanLeft 14 = .ok (.isub, 1) := by decide +kernel
theorem dX2_meanLeft_15 : decode cX2_meanLeft 15 = .ok (.istore_n 3, 1) := by decide +kernel
theorem dX2_meanLeft_16 : decode cX2_meanLeft 16 = .ok (.iload_n 3, 1) := by decide +kernel
theorem dX2_meanLeft_17 : decode cX2_meanLeft 17 = .ok (.ifCond .ne 13, 3) := by decide +kernel
theorem dX2_meanLeft_20 : decode cX2_meanLeft 20 = .ok (.new 181, 3) := by decide +kernel
theorem dX2_meanLeft_23 : decode cX2_meanLeft 23 = .ok (.dup, 1) := by decide +kernel
theorem dX2_meanLeft_24 : decode cX2_meanLeft 24 = .ok (.ldc 189, 2) := by decide +kernel
theorem dX2_meanLeft_26 : decode cX2_meanLeft 26 = .ok (.invokespecial 185, 3) := by decide +kernel
theorem dX2_meanLeft_29 : decode cX2_meanLeft 29 = .ok (.athrow, 1) := by decide +kernel
theorem dX2_meanLeft_30 : decode cX2_meanLeft 30 = .ok (.aload_n 2, 1) := by decide +kernel
theorem dX2_meanLeft_31 : decode cX2_meanLeft 31 = .ok (.invokevirtual 191, 3) := by decide +kernel
theorem dX2_meanLeft_34 : decode cX2_meanLeft 34 = .ok (.i2d, 1) := by decide +kernel
theorem dX2_meanLeft_35 : decode cX2_meanLeft 35 = .ok (.iload_n 3, 1) := by decide +kernel
theorem dX2_meanLeft_36 : decode cX2_meanLeft 36 = .ok (.i2d, 1) := by decide +kernel
theorem dX2_meanLeft_37 : decode cX2_meanLeft 37 = .ok (.ddiv, 1) := by decide +kernel
theorem dX2_meanLeft_38 : decode cX2_meanLeft 38 = .ok (.dreturn, 1) := by decide +kernel
theorem dX2_checksum_0 : decode cX2_checksum 0 = .ok (.ldc2_w 194, 3) := by decide +kernel
theorem dX2_checksum_3 : decode cX2_checksum 3 = .ok (.lstore_n 1, 1) := by decide +kernel
theorem dX2_checksum_4 : decode cX2_checksum 4 = .ok (.aload_n 0, 1) := by decide +kernel
theorem dX2_checksum_5 : decode cX2_checksum 5 = .ok (.getfield 15, 3) := by decide +kernel
theorem dX2_checksum_8 : decode cX2_checksum 8 = .ok (.astore_n 3, 1) := by decide +kernel
theorem dX2_checksum_9 : decode cX2_checksum 9 = .ok (.aload_n 3, 1) := by decide +kernel
theorem dX2_checksum_10 : decode cX2_checksum 10 = .ok (.arraylength, 1) := by decide +kernel
theorem dX2_checksum_11 : decode cX2_checksum 11 = .ok (.istore 4, 2) := by decide +kernel
theorem dX2_checksum_13 : decode cX2_checksum 13 = .ok (.iconst 0, 1) := by decide +kernel
theorem dX2_checksum_14 : decode cX2_checksum 14 = .ok (.istore 5, 2) := by decide +kernel
theorem dX2_checksum_16 : decode cX2_checksum 16 = .ok (.iload 5, 2) := by decide +kernel
theorem dX2_checksum_18 : decode cX2_checksum 18 = .ok (.iload 4, 2) := by decide +kernel
theorem dX2_checksum_20 : decode cX2_checksum 20 = .ok (.if_icmp .ge 22, 3) := by decide +kernel
theorem dX2_checksum_23 : decode cX2_checksum 23 = .ok (.aload_n 3, 1) := by decide +kernel
theorem dX2_checksum_24 : decode cX2_checksum 24 = .ok (.iload 5, 2) := by decide +kernel
theorem dX2_checksum_26 : decode cX2_checksum 26 = .ok (.aaload, 1) := by decide +kernel
theorem dX2_checksum_27 : decode cX2_checksum 27 = .ok (.astore 6, 2) := by decide +kernel
theorem dX2_checksum_29 : decode cX2_checksum 29 = .ok (.aload 6, 2) := by decide +kernel
theorem dX2_checksum_31 : decode cX2_checksum 31 = .ok (.lload_n 1, 1) := by decide +kernel
theorem dX2_checksum_32 : decode cX2_checksum 32 = .ok (.invokevirtual 196, 3) := by decide +kernel
theorem dX2_checksum_35 : decode cX2_checksum 35 = .ok (.lstore_n 1, 1) := by decide +kernel
theorem dX2_checksum_36 : decode cX2_checksum 36 = .ok (.iinc 5 1, 3) := by decide +kernel
theorem dX2_checksum_39 : decode cX2_checksum 39 = .ok (.goto (-23), 3) := by decide +kernel
theorem dX2_checksum_42 : decode cX2_checksum 42 = .ok (.aload_n 0, 1) := by decide +kernel
theorem dX2_checksum_43 : decode cX2_checksum 43 = .ok (.getfield 21, 3) := by decide +kernel
theorem dX2_checksum_46 : decode cX2_checksum 46 = .ok (.astore_n 3, 1) := by decide +kernel
theorem dX2_checksum_47 : decode cX2_checksum 47 = .ok (.aload_n 3, 1) := by decide +kernel
theorem dX2_checksum_48 : decode cX2_checksum 48 = .ok (.arraylength, 1) := by decide +kernel
theorem dX2_checksum_49 : decode cX2_checksum 49 = .ok (.istore 4, 2) := by decide +kernel
theorem dX2_checksum_51 : decode cX2_checksum 51 = .ok (.iconst 0, 1) := by decide +kernel
theorem dX2_checksum_52 : decode cX2_checksum 52 = .ok (.istore 5, 2) := by decide +kernel
theorem dX2_checksum_54 : decode cX2_checksum 54 = .ok (.iload 5, 2) := by decide +kernel
theorem dX2_checksum_56 : decode cX2_checksum 56 = .ok (.iload 4, 2) := by decide +kernel
theorem dX2_checksum_58 : decode cX2_checksum 58 = .ok (.if_icmp .ge 22, 3) := by decide +kernel
theorem dX2_checksum_61 : decode cX2_checksum 61 = .ok (.aload_n 3, 1) := by decide +kernel
theorem dX2_checksum_62 : decode cX2_checksum 62 = .ok (.iload 5, 2) := by decide +kernel
theorem dX2_checksum_64 : decode cX2_checksum 64 = .ok (.aaload, 1) := by decide +kernel
theorem dX2_checksum_65 : decode cX2_checksum 65 = .ok (.astore 6, 2) := by decide +kernel
theorem dX2_checksum_67 : decode cX2_checksum 67 = .ok (.aload 6, 2) := by decide +kernel
theorem dX2_checksum_69 : decode cX2_checksum 69 = .ok (.lload_n 1, 1) := by decide +kernel
theorem dX2_checksum_70 : decode cX2_checksum 70 = .ok (.invokevirtual 200, 3) := by decide +kernel
theorem dX2_checksum_73 : decode cX2_checksum 73 = .ok (.lstore_n 1, 1) := by decide +kernel
theorem dX2_checksum_74 : decode cX2_checksum 74 = .ok (.iinc 5 1, 3) := by decide +kernel
theorem dX2_checksum_77 : decode cX2_checksum 77 = .ok (.goto (-23), 3) := by decide +kernel
theorem dX2_checksum_80 : decode cX2_checksum 80 = .ok (.lload_n 1, 1) := by decide +kernel
theorem dX2_checksum_81 : decode cX2_checksum 81 = .ok (.lreturn, 1) := by decide +kernel
theorem dX2_isSound_0 : decode cX2_isSound 0 = .ok (.aload_n 0, 1) := by decide +kernel
theorem dX2_isSound_1 : decode cX2_isSound 1 = .ok (.getfield 21, 3) := by decide +kernel
theorem dX2_isSound_4 : decode cX2_isSound 4 = .ok (.astore_n 1, 1) := by decide +kernel
theorem dX2_isSound_5 : decode cX2_isSound 5 = .ok (.aload_n 1, 1) := by decide +kernel
theorem dX2_isSound_6 : decode cX2_isSound 6 = .ok (.arraylength, 1) := by decide +kernel
theorem dX2_isSound_7 : decode cX2_isSound 7 = .ok (.istore_n 2, 1) := by decide +kernel
theorem dX2_isSound_8 : decode cX2_isSound 8 = .ok (.iconst 0, 1) := by decide +kernel
theorem dX2_isSound_9 : decode cX2_isSound 9 = .ok (.istore_n 3, 1) := by decide +kernel
theorem dX2_isSound_10 : decode cX2_isSound 10 = .ok (.iload_n 3, 1) := by decide +kernel
theorem dX2_isSound_11 : decode cX2_isSound 11 = .ok (.iload_n 2, 1) := by decide +kernel
theorem dX2_isSound_12 : decode cX2_isSound 12 = .ok (.if_icmp .ge 24, 3) := by decide +kernel
theorem dX2_isSound_15 : decode cX2_isSound 15 = .ok (.aload_n 1, 1) := by decide +kernel
theorem dX2_isSound_16 : decode cX2_isSound 16 = .ok (.iload_n 3, 1) := by decide +kernel
theorem dX2_isSound_17 : decode cX2_isSound 17 = .ok (.aaload, 1) := by decide +kernel
theorem dX2_isSound_18 : decode cX2_isSound 18 = .ok (.astore 4, 2) := by decide +kernel
theorem dX2_isSound_20 : decode cX2_isSound 20 = .ok (.aload 4, 2) := by decide +kernel
theorem dX2_isSound_22 : decode cX2_isSound 22 = .ok (.invokevirtual 201, 3) := by decide +kernel
theorem dX2_isSound_25 : decode cX2_isSound 25 = .ok (.ifCond .ne 5, 3) := by decide +kernel
theorem dX2_isSound_28 : decode cX2_isSound 28 = .ok (.iconst 0, 1) := by decide +kernel
theorem dX2_isSound_29 : decode cX2_isSound 29 = .ok (.ireturn, 1) := by decide +kernel
theorem dX2_isSound_30 : decode cX2_isSound 30 = .ok (.iinc 3 1, 3) := by decide +kernel
theorem dX2_isSound_33 : decode cX2_isSound 33 = .ok (.goto (-23), 3) := by decide +kernel
theorem dX2_isSound_36 : decode cX2_isSound 36 = .ok (.aload_n 0, 1) := by decide +kernel
theorem dX2_isSound_37 : decode cX2_isSound 37 = .ok (.getfield 15, 3) := by decide +kernel
theorem dX2_isSound_40 : decode cX2_isSound 40 = .ok (.astore_n 1, 1) := by decide +kernel
theorem dX2_isSound_41 : decode cX2_isSound 41 = .ok (.aload_n 1, 1) := by decide +kernel
theorem dX2_isSound_42 : decode cX2_isSound 42 = .ok (.arraylength, 1) := by decide +kernel
theorem dX2_isSound_43 : decode cX2_isSound 43 = .ok (.istore_n 2, 1) := by decide +kernel
theorem dX2_isSound_44 : decode cX2_isSound 44 = .ok (.iconst 0, 1) := by decide +kernel
theorem dX2_isSound_45 : decode cX2_isSound 45 = .ok (.istore_n 3, 1) := by decide +kernel
theorem dX2_isSound_46 : decode cX2_isSound 46 = .ok (.iload_n 3, 1) := by decide +kernel
theorem dX2_isSound_47 : decode cX2_isSound 47 = .ok (.iload_n 2, 1) := by decide +kernel
theorem dX2_isSound_48 : decode cX2_isSound 48 = .ok (.if_icmp .ge 33, 3) := by decide +kernel
theorem dX2_isSound_51 : decode cX2_isSound 51 = .ok (.aload_n 1, 1) := by decide +kernel
theorem dX2_isSound_52 : decode cX2_isSound 52 = .ok (.iload_n 3, 1) := by decide +kernel
theorem dX2_isSound_53 : decode cX2_isSound 53 = .ok (.aaload, 1) := by decide +kernel
theorem dX2_isSound_54 : decode cX2_isSound 54 = .ok (.astore 4, 2) := by decide +kernel
theorem dX2_isSound_56 : decode cX2_isSound 56 = .ok (.aload 4, 2) := by decide +kernel
theorem dX2_isSound_58 : decode cX2_isSound 58 = .ok (.invokestatic 204, 3) := by decide +kernel
theorem dX2_isSound_61 : decode cX2_isSound 61 = .ok (.ifCond .eq 12, 3) := by decide +kernel
theorem dX2_isSound_64 : decode cX2_isSound 64 = .ok (.aload_n 0, 1) := by decide +kernel
theorem dX2_isSound_65 : decode cX2_isSound 65 = .ok (.aload 4, 2) := by decide +kernel
theorem dX2_isSound_67 : decode cX2_isSound 67 = .ok (.invokevirtual 208, 3) := by decide +kernel
theorem dX2_isSound_70 : decode cX2_isSound 70 = .ok (.ifCond .ne 5, 3) := by decide +kernel
theorem dX2_isSound_73 : decode cX2_isSound 73 = .ok (.iconst 0, 1) := by decide +kernel
theorem dX2_isSound_74 : decode cX2_isSound 74 = .ok (.ireturn, 1) := by decide +kernel
theorem dX2_isSound_75 : decode cX2_isSound 75 = .ok (.iinc 3 1, 3) := by decide +kernel
theorem dX2_isSound_78 : decode cX2_isSound 78 = .ok (.goto (-32), 3) := by decide +kernel
theorem dX2_isSound_81 : decode cX2_isSound 81 = .ok (.iconst 1, 1) := by decide +kernel
theorem dX2_isSound_82 : decode cX2_isSound 82 = .ok (.ireturn, 1) := by decide +kernel
theorem dX2_indexIn_0 : decode cX2_indexIn 0 = .ok (.iconst 0, 1) := by decide +kernel
theorem dX2_indexIn_1 : decode cX2_indexIn 1 = .ok (.istore_n 2, 1) := by decide +kernel
theorem dX2_indexIn_2 : decode cX2_indexIn 2 = .ok (.iload_n 2, 1) := by decide +kernel
theorem dX2_indexIn_3 : decode cX2_indexIn 3 = .ok (.aload_n 0, 1) := by decide +kernel
theorem dX2_indexIn_4 : decode cX2_indexIn 4 = .ok (.arraylength, 1) := by decide +kernel
theorem dX2_indexIn_5 : decode cX2_indexIn 5 = .ok (.if_icmp .ge 18, 3) := by decide +kernel
theorem dX2_indexIn_8 : decode cX2_indexIn 8 = .ok (.aload_n 0, 1) := by decide +kernel
theorem dX2_indexIn_9 : decode cX2_indexIn 9 = .ok (.iload_n 2, 1) := by decide +kernel
theorem dX2_indexIn_10 : decode cX2_indexIn 10 = .ok (.caload, 1) := by decide +kernel
theorem dX2_indexIn_11 : decode cX2_indexIn 11 = .ok (.iload_n 1, 1) := by decide +kernel
theorem dX2_indexIn_12 : decode cX2_indexIn 12 = .ok (.if_icmp .ne 5, 3) := by decide +kernel
theorem dX2_indexIn_15 : decode cX2_indexIn 15 = .ok (.iload_n 2, 1) := by decide +kernel
theorem dX2_indexIn_16 : decode cX2_indexIn 16 = .ok (.ireturn, 1) := by decide +kernel
theorem dX2_indexIn_17 : decode cX2_indexIn 17 = .ok (.iinc 2 1, 3) := by decide +kernel
theorem dX2_indexIn_20 : decode cX2_indexIn 20 = .ok (.goto (-18), 3) := by decide +kernel
theorem dX2_indexIn_23 : decode cX2_indexIn 23 = .ok (.iconst (-1), 1) := by decide +kernel
theorem dX2_indexIn_24 : decode cX2_indexIn 24 = .ok (.ireturn, 1) := by decide +kernel
theorem dX2_requirePieceSize_0 : decode cX2_requirePieceSize 0 = .ok (.iload_n 0, 1) := by decide +kernel
theorem dX2_requirePieceSize_1 : decode cX2_requirePieceSize 1 = .ok (.iconst 1, 1) := by decide +kernel
theorem dX2_requirePieceSize_2 : decode cX2_requirePieceSize 2 = .ok (.if_icmp .lt 9, 3) := by decide +kernel
theorem dX2_requirePieceSize_5 : decode cX2_requirePieceSize 5 = .ok (.iload_n 0, 1) := by decide +kernel
theorem dX2_requirePieceSize_6 : decode cX2_requirePieceSize 6 = .ok (.bipush 48, 2) := by decide +kernel
theorem dX2_requirePieceSize_8 : decode cX2_requirePieceSize 8 = .ok (.if_icmp .le 13, 3) := by decide +kernel
theorem dX2_requirePieceSize_11 : decode cX2_requirePieceSize 11 = .ok (.new 35, 3) := by decide +kernel
theorem dX2_requirePieceSize_14 : decode cX2_requirePieceSize 14 = .ok (.dup, 1) := by decide +kernel
theorem dX2_requirePieceSize_15 : decode cX2_requirePieceSize 15 = .ok (.ldc 211, 2) := by decide +kernel
theorem dX2_requirePieceSize_17 : decode cX2_requirePieceSize 17 = .ok (.invokespecial 39, 3) := by decide +kernel
theorem dX2_requirePieceSize_20 : decode cX2_requirePieceSize 20 = .ok (.athrow, 1) := by decide +kernel
theorem dX2_requirePieceSize_21 : decode cX2_requirePieceSize 21 = .ok (.return_, 1) := by decide +kernel
theorem dX2_isOfInts_0 : decode cX2_isOfInts 0 = .ok (.iload_n 0, 1) := by decide +kernel
theorem dX2_isOfInts_1 : decode cX2_isOfInts 1 = .ok (.bipush 108, 2) := by decide +kernel
theorem dX2_isOfInts_3 : decode cX2_isOfInts 3 = .ok (.if_icmp .eq 7, 3) := by decide +kernel
theorem dX2_isOfInts_6 : decode cX2_isOfInts 6 = .ok (.iconst 1, 1) := by decide +kernel
theorem dX2_isOfInts_7 : decode cX2_isOfInts 7 = .ok (.goto 4, 3) := by decide +kernel
theorem dX2_isOfInts_10 : decode cX2_isOfInts 10 = .ok (.iconst 0, 1) := by decide +kernel
theorem dX2_isOfInts_11 : decode cX2_isOfInts 11 = .ok (.ireturn, 1) := by decide +kernel
theorem dX2_characteristicsOf_0 : decode cX2_characteristicsOf 0 = .ok (.iload_n 0, 1) := by decide +kernel
theorem dX2_characteristicsOf_1 : decode cX2_characteristicsOf 1 = .ok (.lookupswitch 69 #[(97, 65), (105, 61), (111, 51), (115, 54), (117, 57)], 51) := by decide +kernel
theorem dX2_characteristicsOf_52 : decode cX2_characteristicsOf 52 = .ok (.bipush 16, 2) := by decide +kernel
theorem dX2_characteristicsOf_54 : decode cX2_characteristicsOf 54 = .ok (.ireturn, 1) := by decide +kernel
theorem dX2_characteristicsOf_55 : decode cX2_characteristicsOf 55 = .ok (.bipush 64, 2) := by decide +kernel
theorem dX2_characteristicsOf_57 : decode cX2_characteristicsOf 57 = .ok (.ireturn, 1) := by decide +kernel
theorem dX2_characteristicsOf_58 : decode cX2_characteristicsOf 58 = .ok (.sipush 16384, 3) := by decide +kernel
theorem dX2_characteristicsOf_61 : decode cX2_characteristicsOf 61 = .ok (.ireturn, 1) := by decide +kernel
theorem dX2_characteristicsOf_62 : decode cX2_characteristicsOf 62 = .ok (.sipush 1024, 3) := by decide +kernel
theorem dX2_characteristicsOf_65 : decode cX2_characteristicsOf 65 = .ok (.ireturn, 1) := by decide +kernel
theorem dX2_characteristicsOf_66 : decode cX2_characteristicsOf 66 = .ok (.sipush 17488, 3) := by decide +kernel
theorem dX2_characteristicsOf_69 : decode cX2_characteristicsOf 69 = .ok (.ireturn, 1) := by decide +kernel
theorem dX2_characteristicsOf_70 : decode cX2_characteristicsOf 70 = .ok (.iconst 0, 1) := by decide +kernel
theorem dX2_characteristicsOf_71 : decode cX2_characteristicsOf 71 = .ok (.ireturn, 1) := by decide +kernel
theorem dX2_rowOf_0 : decode cX2_rowOf 0 = .ok (.getstatic 9, 3) := by decide +kernel
theorem dX2_rowOf_3 : decode cX2_rowOf 3 = .ok (.iload_n 1, 1) := by decide +kernel
theorem dX2_rowOf_4 : decode cX2_rowOf 4 = .ok (.invokestatic 167, 3) := by decide +kernel
theorem dX2_rowOf_7 : decode cX2_rowOf 7 = .ok (.istore_n 3, 1) := by decide +kernel
theorem dX2_rowOf_8 : decode cX2_rowOf 8 = .ok (.iload_n 3, 1) := by decide +kernel
theorem dX2_rowOf_9 : decode cX2_rowOf 9 = .ok (.ifCond .ge 13, 3) := by decide +kernel
theorem dX2_rowOf_12 : decode cX2_rowOf 12 = .ok (.new 35, 3) := by decide +kernel
theorem dX2_rowOf_15 : decode cX2_rowOf 15 = .ok (.dup, 1) := by decide +kernel
theorem dX2_rowOf_16 : decode cX2_rowOf 16 = .ok (.ldc 213, 2) := by decide +kernel
theorem dX2_rowOf_18 : decode cX2_rowOf 18 = .ok (.invokespecial 39, 3) := by decide +kernel
theorem dX2_rowOf_21 : decode cX2_rowOf 21 = .ok (.athrow, 1) := by decide +kernel
theorem dX2_rowOf_22 : decode cX2_rowOf 22 = .ok (.iload_n 2, 1) := by decide +kernel
theorem dX2_rowOf_23 : decode cX2_rowOf 23 = .ok (.ifCond .lt 8, 3) := by decide +kernel
theorem dX2_rowOf_26 : decode cX2_rowOf 26 = .ok (.iload_n 2, 1) := by decide +kernel
theorem dX2_rowOf_27 : decode cX2_rowOf 27 = .ok (.iconst 4, 1) := by decide +kernel
theorem dX2_rowOf_28 : decode cX2_rowOf 28 = .ok (.if_icmp .lt 13, 3) := by decide +kernel
theorem dX2_rowOf_31 : decode cX2_rowOf 31 = .ok (.new 67, 3) := by decide +kernel
theorem dX2_rowOf_34 : decode cX2_rowOf 34 = .ok (.dup, 1) := by decide +kernel
theorem dX2_rowOf_35 : decode cX2_rowOf 35 = .ok (.ldc 215, 2) := by decide +kernel
theorem dX2_rowOf_37 : decode cX2_rowOf 37 = .ok (.invokespecial 71, 3) := by decide +kernel
theorem dX2_rowOf_40 : decode cX2_rowOf 40 = .ok (.athrow, 1) := by decide +kernel
theorem dX2_rowOf_41 : decode cX2_rowOf 41 = .ok (.aload_n 0, 1) := by decide +kernel
theorem dX2_rowOf_42 : decode cX2_rowOf 42 = .ok (.getfield 15, 3) := by decide +kernel
theorem dX2_rowOf_45 : decode cX2_rowOf 45 = .ok (.iload_n 3, 1) := by decide +kernel
theorem dX2_rowOf_46 : decode cX2_rowOf 46 = .ok (.iconst 4, 1) := by decide +kernel
theorem dX2_rowOf_47 : decode cX2_rowOf 47 = .ok (.imul, 1) := by decide +kernel
theorem dX2_rowOf_48 : decode cX2_rowOf 48 = .ok (.iload_n 2, 1) := by decide +kernel
theorem dX2_rowOf_49 : decode cX2_rowOf 49 = .ok (.iadd, 1) := by decide +kernel
theorem dX2_rowOf_50 : decode cX2_rowOf 50 = .ok (.aaload, 1) := by decide +kernel
theorem dX2_rowOf_51 : decode cX2_rowOf 51 = .ok (.areturn, 1) := by decide +kernel
theorem dX2_benchAt_0 : decode cX2_benchAt 0 = .ok (.iload_n 1, 1) := by decide +kernel
theorem dX2_benchAt_1 : decode cX2_benchAt 1 = .ok (.ifCond .lt 12, 3) := by decide +kernel
theorem dX2_benchAt_4 : decode cX2_benchAt 4 = .ok (.iload_n 1, 1) := by decide +kernel
theorem dX2_benchAt_5 : decode cX2_benchAt 5 = .ok (.aload_n 0, 1) := by decide +kernel
theorem dX2_benchAt_6 : decode cX2_benchAt 6 = .ok (.getfield 21, 3) := by decide +kernel
theorem dX2_benchAt_9 : decode cX2_benchAt 9 = .ok (.arraylength, 1) := by decide +kernel
theorem dX2_benchAt_10 : decode cX2_benchAt 10 = .ok (.if_icmp .lt 13, 3) := by decide +kernel
theorem dX2_benchAt_13 : decode cX2_benchAt 13 = .ok (.new 67, 3) := by decide +kernel
theorem dX2_benchAt_16 : decode cX2_benchAt 16 = .ok (.dup, 1) := by decide +kernel
theorem dX2_benchAt_17 : decode cX2_benchAt 17 = .ok (.ldc 217, 2) := by decide +kernel
theorem dX2_benchAt_19 : decode cX2_benchAt 19 = .ok (.invokespecial 71, 3) := by decide +kernel
theorem dX2_benchAt_22 : decode cX2_benchAt 22 = .ok (.athrow, 1) := by decide +kernel
theorem dX2_benchAt_23 : decode cX2_benchAt 23 = .ok (.aload_n 0, 1) := by decide +kernel
theorem dX2_benchAt_24 : decode cX2_benchAt 24 = .ok (.getfield 21, 3) := by decide +kernel
theorem dX2_benchAt_27 : decode cX2_benchAt 27 = .ok (.iload_n 1, 1) := by decide +kernel
theorem dX2_benchAt_28 : decode cX2_benchAt 28 = .ok (.aaload, 1) := by decide +kernel
theorem dX2_benchAt_29 : decode cX2_benchAt 29 = .ok (.areturn, 1) := by decide +kernel
theorem dX2_benchWithItem_0 : decode cX2_benchWithItem 0 = .ok (.aload_n 0, 1) := by decide +kernel
theorem dX2_benchWithItem_1 : decode cX2_benchWithItem 1 = .ok (.iload_n 1, 1) := by decide +kernel
theorem dX2_benchWithItem_2 : decode cX2_benchWithItem 2 = .ok (.invokevirtual 76, 3) := by decide +kernel
theorem dX2_benchWithItem_5 : decode cX2_benchWithItem 5 = .ok (.astore_n 3, 1) := by decide +kernel
theorem dX2_benchWithItem_6 : decode cX2_benchWithItem 6 = .ok (.iload_n 2, 1) := by decide +kernel
theorem dX2_benchWithItem_7 : decode cX2_benchWithItem 7 = .ok (.ifCond .lt 11, 3) := by decide +kernel
theorem dX2_benchWithItem_10 : decode cX2_benchWithItem 10 = .ok (.iload_n 2, 1) := by decide +kernel
theorem dX2_benchWithItem_11 : decode cX2_benchWithItem 11 = .ok (.aload_n 3, 1) := by decide +kernel
theorem dX2_benchWithItem_12 : decode cX2_benchWithItem 12 = .ok (.getfield 89, 3) := by decide +kernel
theorem dX2_benchWithItem_15 : decode cX2_benchWithItem 15 = .ok (.if_icmp .lt 13, 3) := by decide +kernel
theorem dX2_benchWithItem_18 : decode cX2_benchWithItem 18 = .ok (.new 67, 3) := by decide +kernel
theorem dX2_benchWithItem_21 : decode cX2_benchWithItem 21 = .ok (.dup, 1) := by decide +kernel
theorem dX2_benchWithItem_22 : decode cX2_benchWithItem 22 = .ok (.ldc 219, 2) := by decide +kernel
theorem dX2_benchWithItem_24 : decode cX2_benchWithItem 24 = .ok (.invokespecial 71, 3) := by decide +kernel
theorem dX2_benchWithItem_27 : decode cX2_benchWithItem 27 = .ok (.athrow, 1) := by decide +kernel
theorem dX2_benchWithItem_28 : decode cX2_benchWithItem 28 = .ok (.aload_n 3, 1) := by decide +kernel
theorem dX2_benchWithItem_29 : decode cX2_benchWithItem 29 = .ok (.areturn, 1) := by decide +kernel
theorem dX2_benchWithAnyPiece_0 : decode cX2_benchWithAnyPiece 0 = .ok (.aload_n 0, 1) := by decide +kernel
theorem dX2_benchWithAnyPiece_1 : decode cX2_benchWithAnyPiece 1 = .ok (.iload_n 1, 1) := by decide +kernel
theorem dX2_benchWithAnyPiece_2 : decode cX2_benchWithAnyPiece 2 = .ok (.iload_n 2, 1) := by decide +kernel
theorem dX2_benchWithAnyPiece_3 : decode cX2_benchWithAnyPiece 3 = .ok (.invokevirtual 90, 3) := by decide +kernel
theorem dX2_benchWithAnyPiece_6 : decode cX2_benchWithAnyPiece 6 = .ok (.astore_n 3, 1) := by decide +kernel
theorem dX2_benchWithAnyPiece_7 : decode cX2_benchWithAnyPiece 7 = .ok (.aload_n 3, 1) := by decide +kernel
theorem dX2_benchWithAnyPiece_8 : decode cX2_benchWithAnyPiece 8 = .ok (.iload_n 2, 1) := by decide +kernel
theorem dX2_benchWithAnyPiece_9 : decode cX2_benchWithAnyPiece 9 = .ok (.invokevirtual 98, 3) := by decide +kernel
theorem dX2_benchWithAnyPiece_12 : decode cX2_benchWithAnyPiece 12 = .ok (.ifCond .eq 13, 3) := by decide +kernel
theorem dX2_benchWithAnyPiece_15 : decode cX2_benchWithAnyPiece 15 = .ok (.new 50, 3) := by decide +kernel
theorem dX2_benchWithAnyPiece_18 : decode cX2_benchWithAnyPiece 18 = .ok (.dup, 1) := by decide +kernel
theorem dX2_benchWithAnyPiece_19 : decode cX2_benchWithAnyPiece 19 = .ok (.ldc 221, 2) := by decide +kernel
theorem dX2_benchWithAnyPiece_21 : decode cX2_benchWithAnyPiece 21 = .ok (.invokespecial 54, 3) := by decide +kernel
theorem dX2_benchWithAnyPiece_24 : decode cX2_benchWithAnyPiece 24 = .ok (.athrow, 1) := by decide +kernel
theorem dX2_benchWithAnyPiece_25 : decode cX2_benchWithAnyPiece 25 = .ok (.aload_n 3, 1) := by decide +kernel
theorem dX2_benchWithAnyPiece_26 : decode cX2_benchWithAnyPiece 26 = .ok (.areturn, 1) := by decide +kernel
theorem dX2_benchWithPiece_0 : decode cX2_benchWithPiece 0 = .ok (.aload_n 0, 1) := by decide +kernel
theorem dX2_benchWithPiece_1 : decode cX2_benchWithPiece 1 = .ok (.iload_n 1, 1) := by decide +kernel
theorem dX2_benchWithPiece_2 : decode cX2_benchWithPiece 2 = .ok (.iload_n 2, 1) := by decide +kernel
theorem dX2_benchWithPiece_3 : decode cX2_benchWithPiece 3 = .ok (.invokevirtual 90, 3) := by decide +kernel
theorem dX2_benchWithPiece_6 : decode cX2_benchWithPiece 6 = .ok (.astore_n 3, 1) := by decide +kernel
theorem dX2_benchWithPiece_7 : decode cX2_benchWithPiece 7 = .ok (.aload_n 3, 1) := by decide +kernel
theorem dX2_benchWithPiece_8 : decode cX2_benchWithPiece 8 = .ok (.getfield 94, 3) := by decide +kernel
theorem dX2_benchWithPiece_11 : decode cX2_benchWithPiece 11 = .ok (.iload_n 2, 1) := by decide +kernel
theorem dX2_benchWithPiece_12 : decode cX2_benchWithPiece 12 = .ok (.iaload, 1) := by decide +kernel
theorem dX2_benchWithPiece_13 : decode cX2_benchWithPiece 13 = .ok (.bipush 112, 2) := by decide +kernel
theorem dX2_benchWithPiece_15 : decode cX2_benchWithPiece 15 = .ok (.if_icmp .eq 13, 3) := by decide +kernel
theorem dX2_benchWithPiece_18 : decode cX2_benchWithPiece 18 = .ok (.new 50, 3) := by decide +kernel
theorem dX2_benchWithPiece_21 : decode cX2_benchWithPiece 21 = .ok (.dup, 1) := by decide +kernel
theorem dX2_benchWithPiece_22 : decode cX2_benchWithPiece 22 = .ok (.ldc 223, 2) := by decide +kernel
theorem dX2_benchWithPiece_24 : decode cX2_benchWithPiece 24 = .ok (.invokespecial 54, 3) := by decide +kernel
theorem dX2_benchWithPiece_27 : decode cX2_benchWithPiece 27 = .ok (.athrow, 1) := by decide +kernel
theorem dX2_benchWithPiece_28 : decode cX2_benchWithPiece 28 = .ok (.aload_n 3, 1) := by decide +kernel
theorem dX2_benchWithPiece_29 : decode cX2_benchWithPiece 29 = .ok (.areturn, 1) := by decide +kernel
theorem dX2_foldPart_0 : decode cX2_foldPart 0 = .ok (.iload_n 2, 1) := by decide +kernel
theorem dX2_foldPart_1 : decode cX2_foldPart 1 = .ok (.iload_n 1, 1) := by decide +kernel
theorem dX2_foldPart_2 : decode cX2_foldPart 2 = .ok (.isub, 1) := by decide +kernel
theorem dX2_foldPart_3 : decode cX2_foldPart 3 = .ok (.istore 6, 2) := by decide +kernel
theorem dX2_foldPart_5 : decode cX2_foldPart 5 = .ok (.iload 6, 2) := by decide +kernel
theorem dX2_foldPart_7 : decode cX2_foldPart 7 = .ok (.iload_n 3, 1) := by decide +kernel
theorem dX2_foldPart_8 : decode cX2_foldPart 8 = .ok (.if_icmp .le 10, 3) := by decide +kernel
theorem dX2_foldPart_11 : decode cX2_foldPart 11 = .ok (.iload 5, 2) := by decide +kernel
theorem dX2_foldPart_13 : decode cX2_foldPart 13 = .ok (.bipush 8, 2) := by decide +kernel
theorem dX2_foldPart_15 : decode cX2_foldPart 15 = .ok (.if_icmp .lt 12, 3) := by decide +kernel
theorem dX2_foldPart_18 : decode cX2_foldPart 18 = .ok (.aload_n 0, 1) := by decide +kernel
theorem dX2_foldPart_19 : decode cX2_foldPart 19 = .ok (.iload_n 1, 1) := by decide +kernel
theorem dX2_foldPart_20 : decode cX2_foldPart 20 = .ok (.iload_n 2, 1) := by decide +kernel
theorem dX2_foldPart_21 : decode cX2_foldPart 21 = .ok (.iload 4, 2) := by decide +kernel
theorem dX2_foldPart_23 : decode cX2_foldPart 23 = .ok (.invokestatic 225, 3) := by decide +kernel
theorem dX2_foldPart_26 : decode cX2_foldPart 26 = .ok (.lreturn, 1) := by decide +kernel
theorem dX2_foldPart_27 : decode cX2_foldPart 27 = .ok (.iload_n 1, 1) := by decide +kernel
theorem dX2_foldPart_28 : decode cX2_foldPart 28 = .ok (.iload 6, 2) := by decide +kernel
theorem dX2_foldPart_30 : decode cX2_foldPart 30 = .ok (.iconst 2, 1) := by decide +kernel
theorem dX2_foldPart_31 : decode cX2_foldPart 31 = .ok (.idiv, 1) := by decide +kernel
theorem dX2_foldPart_32 : decode cX2_foldPart 32 = .ok (.iadd, 1) := by decide +kernel
theorem dX2_foldPart_33 : decode cX2_foldPart 33 = .ok (.istore 7, 2) := by decide +kernel
theorem dX2_foldPart_35 : decode cX2_foldPart 35 = .ok (.aload_n 0, 1) := by decide +kernel
theorem dX2_foldPart_36 : decode cX2_foldPart 36 = .ok (.iload_n 1, 1) := by decide +kernel
theorem dX2_foldPart_37 : decode cX2_foldPart 37 = .ok (.iload 7, 2) := by decide +kernel
theorem dX2_foldPart_39 : decode cX2_foldPart 39 = .ok (.iload_n 3, 1) := by decide +kernel
theorem dX2_foldPart_40 : decode cX2_foldPart 40 = .ok (.iload 4, 2) := by decide +kernel
theorem dX2_foldPart_42 : decode cX2_foldPart 42 = .ok (.iload 5, 2) := by decide +kernel
theorem dX2_foldPart_44 : decode cX2_foldPart 44 = .ok (.iconst 1, 1) := by decide +kernel
theorem dX2_foldPart_45 : decode cX2_foldPart 45 = .ok (.iadd, 1) := by decide +kernel
theorem dX2_foldPart_46 : decode cX2_foldPart 46 = .ok (.invokestatic 173, 3) := by decide +kernel
theorem dX2_foldPart_49 : decode cX2_foldPart 49 = .ok (.lstore 8, 2) := by decide +kernel
theorem dX2_foldPart_51 : decode cX2_foldPart 51 = .ok (.aload_n 0, 1) := by decide +kernel
theorem dX2_foldPart_52 : decode cX2_foldPart 52 = .ok (.iload 7, 2) := by decide +kernel
theorem dX2_foldPart_54 : decode cX2_foldPart 54 = .ok (.iload_n 2, 1) := by decide +kernel
theorem dX2_foldPart_55 : decode cX2_foldPart 55 = .ok (.iload_n 3, 1) := by decide +kernel
theorem dX2_foldPart_56 : decode cX2_foldPart 56 = .ok (.iload 4, 2) := by decide +kernel
theorem dX2_foldPart_58 : decode cX2_foldPart 58 = .ok (.iload 5, 2) := by decide +kernel
theorem dX2_foldPart_60 : decode cX2_foldPart 60 = .ok (.iconst 1, 1) := by decide +kernel
theorem dX2_foldPart_61 : decode cX2_foldPart 61 = .ok (.iadd, 1) := by decide +kernel
theorem dX2_foldPart_62 : decode cX2_foldPart 62 = .ok (.invokestatic 173, 3) := by decide +kernel
theorem dX2_foldPart_65 : decode cX2_foldPart 65 = .ok (.lstore 10, 2) := by decide +kernel
theorem dX2_foldPart_67 : decode cX2_foldPart 67 = .ok (.aload_n 0, 1) := by decide +kernel
theorem dX2_foldPart_68 : decode cX2_foldPart 68 = .ok (.iload 4, 2) := by decide +kernel
theorem dX2_foldPart_70 : decode cX2_foldPart 70 = .ok (.lload 8, 2) := by decide +kernel
theorem dX2_foldPart_72 : decode cX2_foldPart 72 = .ok (.lload 10, 2) := by decide +kernel
theorem dX2_foldPart_74 : decode cX2_foldPart 74 = .ok (.iload_n 2, 1) := by decide +kernel
theorem dX2_foldPart_75 : decode cX2_foldPart 75 = .ok (.iload 7, 2) := by decide +kernel
theorem dX2_foldPart_77 : decode cX2_foldPart 77 = .ok (.isub, 1) := by decide +kernel
theorem dX2_foldPart_78 : decode cX2_foldPart 78 = .ok (.invokestatic 229, 3) := by decide +kernel
theorem dX2_foldPart_81 : decode cX2_foldPart 81 = .ok (.lreturn, 1) := by decide +kernel
theorem dX2_foldByNumber_0 : decode cX2_foldByNumber 0 = .ok (.iload_n 3, 1) := by decide +kernel
theorem dX2_foldByNumber_1 : decode cX2_foldByNumber 1 = .ok (.bipush 102, 2) := by decide +kernel
theorem dX2_foldByNumber_3 : decode cX2_foldByNumber 3 = .ok (.if_icmp .ne 9, 3) := by decide +kernel
theorem dX2_foldByNumber_6 : decode cX2_foldByNumber 6 = .ok (.ldc2_w 233, 3) := by decide +kernel
theorem dX2_foldByNumber_9 : decode cX2_foldByNumber 9 = .ok (.goto 4, 3) := by decide +kernel
theorem dX2_foldByNumber_12 : decode cX2_foldByNumber 12 = .ok (.lconst 0, 1) := by decide +kernel
theorem dX2_foldByNumber_13 : decode cX2_foldByNumber 13 = .ok (.lstore 4, 2) := by decide +kernel
theorem dX2_foldByNumber_15 : decode cX2_foldByNumber 15 = .ok (.iload_n 1, 1) := by decide +kernel
theorem dX2_foldByNumber_16 : decode cX2_foldByNumber 16 = .ok (.istore 6, 2) := by decide +kernel
theorem dX2_foldByNumber_18 : decode cX2_foldByNumber 18 = .ok (.iload 6, 2) := by decide +kernel
theorem dX2_foldByNumber_20 : decode cX2_foldByNumber 20 = .ok (.iload_n 2, 1) := by decide +kernel
theorem dX2_foldByNumber_21 : decode cX2_foldByNumber 21 = .ok (.if_icmp .ge 20, 3) := by decide +kernel
theorem dX2_foldByNumber_24 : decode cX2_foldByNumber 24 = .ok (.aload_n 0, 1) := by decide +kernel
theorem dX2_foldByNumber_25 : decode cX2_foldByNumber 25 = .ok (.iload_n 3, 1) := by decide +kernel
theorem dX2_foldByNumber_26 : decode cX2_foldByNumber 26 = .ok (.lload 4, 2) := by decide +kernel
theorem dX2_foldByNumber_28 : decode cX2_foldByNumber 28 = .ok (.iload 6, 2) := by decide +kernel
theorem dX2_foldByNumber_30 : decode cX2_foldByNumber 30 = .ok (.invokestatic 235, 3) := by decide +kernel
theorem dX2_foldByNumber_33 : decode cX2_foldByNumber 33 = .ok (.lstore 4, 2) := by decide +kernel
theorem dX2_foldByNumber_35 : decode cX2_foldByNumber 35 = .ok (.iinc 6 1, 3) := by decide +kernel
theorem dX2_foldByNumber_38 : decode cX2_foldByNumber 38 = .ok (.goto (-20), 3) := by decide +kernel
theorem dX2_foldByNumber_41 : decode cX2_foldByNumber 41 = .ok (.lload 4, 2) := by decide +kernel
theorem dX2_foldByNumber_43 : decode cX2_foldByNumber 43 = .ok (.lreturn, 1) := by decide +kernel
theorem dX2_foldNext_0 : decode cX2_foldNext 0 = .ok (.aload_n 0, 1) := by decide +kernel
theorem dX2_foldNext_1 : decode cX2_foldNext 1 = .ok (.iload 4, 2) := by decide +kernel
theorem dX2_foldNext_3 : decode cX2_foldNext 3 = .ok (.invokevirtual 72, 3) := by decide +kernel
theorem dX2_foldNext_6 : decode cX2_foldNext 6 = .ok (.lstore 5, 2) := by decide +kernel
theorem dX2_foldNext_8 : decode cX2_foldNext 8 = .ok (.iload_n 1, 1) := by decide +kernel
theorem dX2_foldNext_9 : decode cX2_foldNext 9 = .ok (.lookupswitch 54 #[(104, 45), (115, 35), (120, 40)], 35) := by decide +kernel
theorem dX2_foldNext_44 : decode cX2_foldNext 44 = .ok (.lload_n 2, 1) := by decide +kernel
theorem dX2_foldNext_45 : decode cX2_foldNext 45 = .ok (.lload 5, 2) := by decide +kernel
theorem dX2_foldNext_47 : decode cX2_foldNext 47 = .ok (.ladd, 1) := by decide +kernel
theorem dX2_foldNext_48 : decode cX2_foldNext 48 = .ok (.lreturn, 1) := by decide +kernel
theorem dX2_foldNext_49 : decode cX2_foldNext 49 = .ok (.lload_n 2, 1) := by decide +kernel
theorem dX2_foldNext_50 : decode cX2_foldNext 50 = .ok (.lload 5, 2) := by decide +kernel
theorem dX2_foldNext_52 : decode cX2_foldNext 52 = .ok (.lxor, 1) := by decide +kernel
theorem dX2_foldNext_53 : decode cX2_foldNext 53 = .ok (.lreturn, 1) := by decide +kernel
theorem dX2_foldNext_54 : decode cX2_foldNext 54 = .ok (.ldc2_w 239, 3) := by decide +kernel
theorem dX2_foldNext_57 : decode cX2_foldNext 57 = .ok (.lload_n 2, 1) := by decide +kernel
theorem dX2_foldNext_58 : decode cX2_foldNext 58 = .ok (.lmul, 1) := by decide +kernel
theorem dX2_foldNext_59 : decode cX2_foldNext 59 = .ok (.lload 5, 2) := by decide +kernel
theorem dX2_foldNext_61 : decode cX2_foldNext 61 = .ok (.ladd, 1) := by decide +kernel
theorem dX2_foldNext_62 : decode cX2_foldNext 62 = .ok (.lreturn, 1) := by decide +kernel
theorem dX2_foldNext_63 : decode cX2_foldNext 63 = .ok (.lload_n 2, 1) := by decide +kernel
theorem dX2_foldNext_64 : decode cX2_foldNext 64 = .ok (.lconst 0, 1) := by decide +kernel
theorem dX2_foldNext_65 : decode cX2_foldNext 65 = .ok (.lcmp, 1) := by decide +kernel
theorem dX2_foldNext_66 : decode cX2_foldNext 66 = .ok (.ifCond .lt 15, 3) := by decide +kernel
theorem dX2_foldNext_69 : decode cX2_foldNext 69 = .ok (.lload 5, 2) := by decide +kernel
theorem dX2_foldNext_71 : decode cX2_foldNext 71 = .ok (.aload_n 0, 1) := by decide +kernel
theorem dX2_foldNext_72 : decode cX2_foldNext 72 = .ok (.lload_n 2, 1) := by decide +kernel
theorem dX2_foldNext_73 : decode cX2_foldNext 73 = .ok (.l2i, 1) := by decide +kernel
theorem dX2_foldNext_74 : decode cX2_foldNext 74 = .ok (.invokevirtual 72, 3) := by decide +kernel
theorem dX2_foldNext_77 : decode cX2_foldNext 77 = .ok (.lcmp, 1) := by decide +kernel
theorem dX2_foldNext_78 : decode cX2_foldNext 78 = .ok (.ifCond .le 9, 3) := by decide +kernel
theorem dX2_foldNext_81 : decode cX2_foldNext 81 = .ok (.iload 4, 2) := by decide +kernel
theorem dX2_foldNext_83 : decode cX2_foldNext 83 = .ok (.i2l, 1) := by decide +kernel
theorem dX2_foldNext_84 : decode cX2_foldNext 84 = .ok (.goto 4, 3) := by decide +kernel
theorem dX2_foldNext_87 : decode cX2_foldNext 87 = .ok (.lload_n 2, 1) := by decide +kernel
theorem dX2_foldNext_88 : decode cX2_foldNext 88 = .ok (.lreturn, 1) := by decide +kernel
theorem dX2_join_0 : decode cX2_join 0 = .ok (.iload_n 1, 1) := by decide +kernel
theorem dX2_join_1 : decode cX2_join 1 = .ok (.lookupswitch 56 #[(104, 45), (115, 35), (120, 40)], 35) := by decide +kernel
theorem dX2_join_36 : decode cX2_join 36 = .ok (.lload_n 2, 1) := by decide +kernel
theorem dX2_join_37 : decode cX2_join 37 = .ok (.lload 4, 2) := by decide +kernel
theorem dX2_join_39 : decode cX2_join 39 = .ok (.ladd, 1) := by decide +kernel
theorem dX2_join_40 : decode cX2_join 40 = .ok (.lreturn, 1) := by decide +kernel
theorem dX2_join_41 : decode cX2_join 41 = .ok (.lload_n 2, 1) := by decide +kernel
theorem dX2_join_42 : decode cX2_join 42 = .ok (.lload 4, 2) := by decide +kernel
theorem dX2_join_44 : decode cX2_join 44 = .ok (.lxor, 1) := by decide +kernel
theorem dX2_join_45 : decode cX2_join 45 = .ok (.lreturn, 1) := by decide +kernel
theorem dX2_join_46 : decode cX2_join 46 = .ok (.lload_n 2, 1) := by decide +kernel
theorem dX2_join_47 : decode cX2_join 47 = .ok (.iload 6, 2) := by decide +kernel
theorem dX2_join_49 : decode cX2_join 49 = .ok (.invokestatic 241, 3) := by decide +kernel
theorem dX2_join_52 : decode cX2_join 52 = .ok (.lmul, 1) := by decide +kernel
theorem dX2_join_53 : decode cX2_join 53 = .ok (.lload 4, 2) := by decide +kernel
theorem dX2_join_55 : decode cX2_join 55 = .ok (.ladd, 1) := by decide +kernel
theorem dX2_join_56 : decode cX2_join 56 = .ok (.lreturn, 1) := by decide +kernel
theorem dX2_join_57 : decode cX2_join 57 = .ok (.aload_n 0, 1) := by decide +kernel
theorem dX2_join_58 : decode cX2_join 58 = .ok (.lload_n 2, 1) := by decide +kernel
theorem dX2_join_59 : decode cX2_join 59 = .ok (.lload 4, 2) := by decide +kernel
theorem dX2_join_61 : decode cX2_join 61 = .ok (.invokestatic 244, 3) := by decide +kernel
theorem dX2_join_64 : decode cX2_join 64 = .ok (.lreturn, 1) := by decide +kernel
theorem dX2_powerOf31_0 : decode cX2_powerOf31 0 = .ok (.lconst 1, 1) := by decide +kernel
theorem dX2_powerOf31_1 : decode cX2_powerOf31 1 = .ok (.lstore_n 1, 1) := by decide +kernel
theorem dX2_powerOf31_2 : decode cX2_powerOf31 2 = .ok (.iconst 0, 1) := by decide +kernel
theorem dX2_powerOf31_3 : decode cX2_powerOf31 3 = .ok (.istore_n 3, 1) := by decide +kernel
theorem dX2_powerOf31_4 : decode cX2_powerOf31 4 = .ok (.iload_n 3, 1) := by decide +kernel
theorem dX2_powerOf31_5 : decode cX2_powerOf31 5 = .ok (.iload_n 0, 1) := by decide +kernel
theorem dX2_powerOf31_6 : decode cX2_powerOf31 6 = .ok (.if_icmp .ge 15, 3) := by decide +kernel
theorem dX2_powerOf31_9 : decode cX2_powerOf31 9 = .ok (.lload_n 1, 1) := by decide +kernel
theorem dX2_powerOf31_10 : decode cX2_powerOf31 10 = .ok (.ldc2_w 239, 3) := by decide +kernel
theorem dX2_powerOf31_13 : decode cX2_powerOf31 13 = .ok (.lmul, 1) := by decide +kernel
theorem dX2_powerOf31_14 : decode cX2_powerOf31 14 = .ok (.lstore_n 1, 1) := by decide +kernel
theorem dX2_powerOf31_15 : decode cX2_powerOf31 15 = .ok (.iinc 3 1, 3) := by decide +kernel
theorem dX2_powerOf31_18 : decode cX2_powerOf31 18 = .ok (.goto (-14), 3) := by decide +kernel
theorem dX2_powerOf31_21 : decode cX2_powerOf31 21 = .ok (.lload_n 1, 1) := by decide +kernel
theorem dX2_powerOf31_22 : decode cX2_powerOf31 22 = .ok (.lreturn, 1) := by decide +kernel
theorem dX2_greaterPlace_0 : decode cX2_greaterPlace 0 = .ok (.lload_n 1, 1) := by decide +kernel
theorem dX2_greaterPlace_1 : decode cX2_greaterPlace 1 = .ok (.lconst 0, 1) := by decide +kernel
theorem dX2_greaterPlace_2 : decode cX2_greaterPlace 2 = .ok (.lcmp, 1) := by decide +kernel
theorem dX2_greaterPlace_3 : decode cX2_greaterPlace 3 = .ok (.ifCond .lt 9, 3) := by decide +kernel
theorem dX2_greaterPlace_6 : decode cX2_greaterPlace 6 = .ok (.lload_n 3, 1) := by decide +kernel
theorem dX2_greaterPlace_7 : decode cX2_greaterPlace 7 = .ok (.lconst 0, 1) := by decide +kernel
theorem dX2_greaterPlace_8 : decode cX2_greaterPlace 8 = .ok (.lcmp, 1) := by decide +kernel
theorem dX2_greaterPlace_9 : decode cX2_greaterPlace 9 = .ok (.ifCond .ge 9, 3) := by decide +kernel
theorem dX2_greaterPlace_12 : decode cX2_greaterPlace 12 = .ok (.lload_n 1, 1) := by decide +kernel
theorem dX2_greaterPlace_13 : decode cX2_greaterPlace 13 = .ok (.lload_n 3, 1) := by decide +kernel
theorem dX2_greaterPlace_14 : decode cX2_greaterPlace 14 = .ok (.invokestatic 248, 3) := by decide +kernel
theorem dX2_greaterPlace_17 : decode cX2_greaterPlace 17 = .ok (.lreturn, 1) := by decide +kernel
theorem dX2_greaterPlace_18 : decode cX2_greaterPlace 18 = .ok (.aload_n 0, 1) := by decide +kernel
theorem dX2_greaterPlace_19 : decode cX2_greaterPlace 19 = .ok (.lload_n 3, 1) := by decide +kernel
theorem dX2_greaterPlace_20 : decode cX2_greaterPlace 20 = .ok (.l2i, 1) := by decide +kernel
theorem dX2_greaterPlace_21 : decode cX2_greaterPlace 21 = .ok (.invokevirtual 72, 3) := by decide +kernel
theorem dX2_greaterPlace_24 : decode cX2_greaterPlace 24 = .ok (.aload_n 0, 1) := by decide +kernel
theorem dX2_greaterPlace_25 : decode cX2_greaterPlace 25 = .ok (.lload_n 1, 1) := by decide +kernel
theorem dX2_greaterPlace_26 : decode cX2_greaterPlace 26 = .ok (.l2i, 1) := by decide +kernel
theorem dX2_greaterPlace_27 : decode cX2_greaterPlace 27 = .ok (.invokevirtual 72, 3) := by decide +kernel
theorem dX2_greaterPlace_30 : decode cX2_greaterPlace 30 = .ok (.lcmp, 1) := by decide +kernel
theorem dX2_greaterPlace_31 : decode cX2_greaterPlace 31 = .ok (.ifCond .le 7, 3) := by decide +kernel
theorem dX2_greaterPlace_34 : decode cX2_greaterPlace 34 = .ok (.lload_n 3, 1) := by decide +kernel
theorem dX2_greaterPlace_35 : decode cX2_greaterPlace 35 = .ok (.goto 4, 3) := by decide +kernel
theorem dX2_greaterPlace_38 : decode cX2_greaterPlace 38 = .ok (.lload_n 1, 1) := by decide +kernel
theorem dX2_greaterPlace_39 : decode cX2_greaterPlace 39 = .ok (.lreturn, 1) := by decide +kernel
theorem dX2_countBySplitting_0 : decode cX2_countBySplitting 0 = .ok (.aload_n 0, 1) := by decide +kernel
theorem dX2_countBySplitting_1 : decode cX2_countBySplitting 1 = .ok (.getfield 26, 3) := by decide +kernel
theorem dX2_countBySplitting_4 : decode cX2_countBySplitting 4 = .ok (.aload_n 1, 1) := by decide +kernel
theorem dX2_countBySplitting_5 : decode cX2_countBySplitting 5 = .ok (.iconst 0, 1) := by decide +kernel
theorem dX2_countBySplitting_6 : decode cX2_countBySplitting 6 = .ok (.aload_n 1, 1) := by decide +kernel
theorem dX2_countBySplitting_7 : decode cX2_countBySplitting 7 = .ok (.getfield 55, 3) := by decide +kernel
theorem dX2_countBySplitting_10 : decode cX2_countBySplitting 10 = .ok (.iconst 0, 1) := by decide +kernel
theorem dX2_countBySplitting_11 : decode cX2_countBySplitting 11 = .ok (.invokevirtual 82, 3) := by decide +kernel
theorem dX2_countBySplitting_14 : decode cX2_countBySplitting 14 = .ok (.aload_n 0, 1) := by decide +kernel
theorem dX2_countBySplitting_15 : decode cX2_countBySplitting 15 = .ok (.getfield 26, 3) := by decide +kernel
theorem dX2_countBySplitting_18 : decode cX2_countBySplitting 18 = .ok (.iload_n 2, 1) := by decide +kernel
theorem dX2_countBySplitting_19 : decode cX2_countBySplitting 19 = .ok (.invokevirtual 153, 3) := by decide +kernel
theorem dX2_countBySplitting_22 : decode cX2_countBySplitting 22 = .ok (.pop, 1) := by decide +kernel
theorem dX2_countBySplitting_23 : decode cX2_countBySplitting 23 = .ok (.aload_n 0, 1) := by decide +kernel
theorem dX2_countBySplitting_24 : decode cX2_countBySplitting 24 = .ok (.getfield 26, 3) := by decide +kernel
theorem dX2_countBySplitting_27 : decode cX2_countBySplitting 27 = .ok (.getfield 89, 3) := by decide +kernel
theorem dX2_countBySplitting_30 : decode cX2_countBySplitting 30 = .ok (.ireturn, 1) := by decide +kernel
theorem dX2_countByTheorem_0 : decode cX2_countByTheorem 0 = .ok (.iload_n 0, 1) := by decide +kernel
theorem dX2_countByTheorem_1 : decode cX2_countByTheorem 1 = .ok (.iload_n 1, 1) := by decide +kernel
theorem dX2_countByTheorem_2 : decode cX2_countByTheorem 2 = .ok (.if_icmp .le 9, 3) := by decide +kernel
theorem dX2_countByTheorem_5 : decode cX2_countByTheorem 5 = .ok (.iload_n 2, 1) := by decide +kernel
theorem dX2_countByTheorem_6 : decode cX2_countByTheorem 6 = .ok (.bipush 8, 2) := by decide +kernel
theorem dX2_countByTheorem_8 : decode cX2_countByTheorem 8 = .ok (.if_icmp .lt 5, 3) := by decide +kernel
theorem dX2_countByTheorem_11 : decode cX2_countByTheorem 11 = .ok (.iconst 1, 1) := by decide +kernel
theorem dX2_countByTheorem_12 : decode cX2_countByTheorem 12 = .ok (.ireturn, 1) := by decide +kernel
theorem dX2_countByTheorem_13 : decode cX2_countByTheorem 13 = .ok (.iload_n 0, 1) := by decide +kernel
theorem dX2_countByTheorem_14 : decode cX2_countByTheorem 14 = .ok (.iconst 2, 1) := by decide +kernel
theorem dX2_countByTheorem_15 : decode cX2_countByTheorem 15 = .ok (.idiv, 1) := by decide +kernel
theorem dX2_countByTheorem_16 : decode cX2_countByTheorem 16 = .ok (.istore_n 3, 1) := by decide +kernel
theorem dX2_countByTheorem_17 : decode cX2_countByTheorem 17 = .ok (.iload_n 3, 1) := by decide +kernel
theorem dX2_countByTheorem_18 : decode cX2_countByTheorem 18 = .ok (.iload_n 1, 1) := by decide +kernel
theorem dX2_countByTheorem_19 : decode cX2_countByTheorem 19 = .ok (.iload_n 2, 1) := by decide +kernel
theorem dX2_countByTheorem_20 : decode cX2_countByTheorem 20 = .ok (.iconst 1, 1) := by decide +kernel
theorem dX2_countByTheorem_21 : decode cX2_countByTheorem 21 = .ok (.iadd, 1) := by decide +kernel
theorem dX2_countByTheorem_22 : decode cX2_countByTheorem 22 = .ok (.invokestatic 254, 3) := by decide +kernel
theorem dX2_countByTheorem_25 : decode cX2_countByTheorem 25 = .ok (.iload_n 0, 1) := by decide +kernel
theorem dX2_countByTheorem_26 : decode cX2_countByTheorem 26 = .ok (.iload_n 3, 1) := by decide +kernel
theorem dX2_countByTheorem_27 : decode cX2_countByTheorem 27 = .ok (.isub, 1) := by decide +kernel
theorem dX2_countByTheorem_28 : decode cX2_countByTheorem 28 = .ok (.iload_n 1, 1) := by decide +kernel
theorem dX2_countByTheorem_29 : decode cX2_countByTheorem 29 = .ok (.iload_n 2, 1) := by decide +kernel
theorem dX2_countByTheorem_30 : decode cX2_countByTheorem 30 = .ok (.iconst 1, 1) := by decide +kernel
theorem dX2_countByTheorem_31 : decode cX2_countByTheorem 31 = .ok (.iadd, 1) := by decide +kernel
theorem dX2_countByTheorem_32 : decode cX2_countByTheorem 32 = .ok (.invokestatic 254, 3) := by decide +kernel
theorem dX2_countByTheorem_35 : decode cX2_countByTheorem 35 = .ok (.iadd, 1) := by decide +kernel
theorem dX2_countByTheorem_36 : decode cX2_countByTheorem 36 = .ok (.ireturn, 1) := by decide +kernel
theorem dX2_foldsAgree_0 : decode cX2_foldsAgree 0 = .ok (.getstatic 164, 3) := by decide +kernel
theorem dX2_foldsAgree_3 : decode cX2_foldsAgree 3 = .ok (.astore_n 1, 1) := by decide +kernel
theorem dX2_foldsAgree_4 : decode cX2_foldsAgree 4 = .ok (.aload_n 1, 1) := by decide +kernel
theorem dX2_foldsAgree_5 : decode cX2_foldsAgree 5 = .ok (.arraylength, 1) := by decide +kernel
theorem dX2_foldsAgree_6 : decode cX2_foldsAgree 6 = .ok (.istore_n 2, 1) := by decide +kernel
theorem dX2_foldsAgree_7 : decode cX2_foldsAgree 7 = .ok (.iconst 0, 1) := by decide +kernel
theorem dX2_foldsAgree_8 : decode cX2_foldsAgree 8 = .ok (.istore_n 3, 1) := by decide +kernel
theorem dX2_foldsAgree_9 : decode cX2_foldsAgree 9 = .ok (.iload_n 3, 1) := by decide +kernel
theorem dX2_foldsAgree_10 : decode cX2_foldsAgree 10 = .ok (.iload_n 2, 1) := by decide +kernel
theorem dX2_foldsAgree_11 : decode cX2_foldsAgree 11 = .ok (.if_icmp .ge 82, 3) := by decide +kernel
theorem dX2_foldsAgree_14 : decode cX2_foldsAgree 14 = .ok (.aload_n 1, 1) := by decide +kernel
theorem dX2_foldsAgree_15 : decode cX2_foldsAgree 15 = .ok (.iload_n 3, 1) := by decide +kernel
theorem dX2_foldsAgree_16 : decode cX2_foldsAgree 16 = .ok (.caload, 1) := by decide +kernel
theorem dX2_foldsAgree_17 : decode cX2_foldsAgree 17 = .ok (.istore 4, 2) := by decide +kernel
theorem dX2_foldsAgree_19 : decode cX2_foldsAgree 19 = .ok (.aload_n 0, 1) := by decide +kernel
theorem dX2_foldsAgree_20 : decode cX2_foldsAgree 20 = .ok (.iconst 0, 1) := by decide +kernel
theorem dX2_foldsAgree_21 : decode cX2_foldsAgree 21 = .ok (.aload_n 0, 1) := by decide +kernel
theorem dX2_foldsAgree_22 : decode cX2_foldsAgree 22 = .ok (.getfield 55, 3) := by decide +kernel
theorem dX2_foldsAgree_25 : decode cX2_foldsAgree 25 = .ok (.iload 4, 2) := by decide +kernel
theorem dX2_foldsAgree_27 : decode cX2_foldsAgree 27 = .ok (.invokestatic 225, 3) := by decide +kernel
theorem dX2_foldsAgree_30 : decode cX2_foldsAgree 30 = .ok (.lstore 5, 2) := by decide +kernel
theorem dX2_foldsAgree_32 : decode cX2_foldsAgree 32 = .ok (.getstatic 258, 3) := by decide +kernel
theorem dX2_foldsAgree_35 : decode cX2_foldsAgree 35 = .ok (.astore 7, 2) := by decide +kernel
theorem dX2_foldsAgree_37 : decode cX2_foldsAgree 37 = .ok (.aload 7, 2) := by decide +kernel
theorem dX2_foldsAgree_39 : decode cX2_foldsAgree 39 = .ok (.arraylength, 1) := by decide +kernel
theorem dX2_foldsAgree_40 : decode cX2_foldsAgree 40 = .ok (.istore 8, 2) := by decide +kernel
theorem dX2_foldsAgree_42 : decode cX2_foldsAgree 42 = .ok (.iconst 0, 1) := by decide +kernel
theorem dX2_foldsAgree_43 : decode cX2_foldsAgree 43 = .ok (.istore 9, 2) := by decide +kernel
theorem dX2_foldsAgree_45 : decode cX2_foldsAgree 45 = .ok (.iload 9, 2) := by decide +kernel
theorem dX2_foldsAgree_47 : decode cX2_foldsAgree 47 = .ok (.iload 8, 2) := by decide +kernel
theorem dX2_foldsAgree_49 : decode cX2_foldsAgree 49 = .ok (.if_icmp .ge 38, 3) := by decide +kernel
theorem dX2_foldsAgree_52 : decode cX2_foldsAgree 52 = .ok (.aload 7, 2) := by decide +kernel
theorem dX2_foldsAgree_54 : decode cX2_foldsAgree 54 = .ok (.iload 9, 2) := by decide +kernel
theorem dX2_foldsAgree_56 : decode cX2_foldsAgree 56 = .ok (.iaload, 1) := by decide +kernel
theorem dX2_foldsAgree_57 : decode cX2_foldsAgree 57 = .ok (.istore 10, 2) := by decide +kernel
theorem dX2_foldsAgree_59 : decode cX2_foldsAgree 59 = .ok (.aload_n 0, 1) := by decide +kernel
theorem dX2_foldsAgree_60 : decode cX2_foldsAgree 60 = .ok (.iconst 0, 1) := by decide +kernel
theorem dX2_foldsAgree_61 : decode cX2_foldsAgree 61 = .ok (.aload_n 0, 1) := by decide +kernel
theorem dX2_foldsAgree_62 : decode cX2_foldsAgree 62 = .ok (.getfield 55, 3) := by decide +kernel
theorem dX2_foldsAgree_65 : decode cX2_foldsAgree 65 = .ok (.iload 10, 2) := by decide +kernel
theorem dX2_foldsAgree_67 : decode cX2_foldsAgree 67 = .ok (.iload 4, 2) := by decide +kernel
theorem dX2_foldsAgree_69 : decode cX2_foldsAgree 69 = .ok (.iconst 0, 1) := by decide +kernel
theorem dX2_foldsAgree_70 : decode cX2_foldsAgree 70 = .ok (.invokestatic 173, 3) := by decide +kernel
theorem dX2_foldsAgree_73 : decode cX2_foldsAgree 73 = .ok (.lload 5, 2) := by decide +kernel
theorem dX2_foldsAgree_75 : decode cX2_foldsAgree 75 = .ok (.lcmp, 1) := by decide +kernel
theorem dX2_foldsAgree_76 : decode cX2_foldsAgree 76 = .ok (.ifCond .eq 5, 3) := by decide +kernel
theorem dX2_foldsAgree_79 : decode cX2_foldsAgree 79 = .ok (.iconst 0, 1) := by decide +kernel
