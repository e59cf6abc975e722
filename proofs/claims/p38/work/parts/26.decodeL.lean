theorem dL_cell_0 : decode cL_cell 0 = .ok (.iload_n 1, 1) := by decide +kernel
theorem dL_cell_1 : decode cL_cell 1 = .ok (.aload_n 0, 1) := by decide +kernel
theorem dL_cell_2 : decode cL_cell 2 = .ok (.arraylength, 1) := by decide +kernel
theorem dL_cell_3 : decode cL_cell 3 = .ok (.if_icmp .ge 9, 3) := by decide +kernel
theorem dL_cell_6 : decode cL_cell 6 = .ok (.aload_n 0, 1) := by decide +kernel
theorem dL_cell_7 : decode cL_cell 7 = .ok (.iload_n 1, 1) := by decide +kernel
theorem dL_cell_8 : decode cL_cell 8 = .ok (.iaload, 1) := by decide +kernel
theorem dL_cell_9 : decode cL_cell 9 = .ok (.goto 4, 3) := by decide +kernel
theorem dL_cell_12 : decode cL_cell 12 = .ok (.iconst 0, 1) := by decide +kernel
theorem dL_cell_13 : decode cL_cell 13 = .ok (.ireturn, 1) := by decide +kernel
theorem dL_some_0 : decode cL_some 0 = .ok (.iload_n 0, 1) := by decide +kernel
theorem dL_some_1 : decode cL_some 1 = .ok (.iload_n 1, 1) := by decide +kernel
theorem dL_some_2 : decode cL_some 2 = .ok (.irem, 1) := by decide +kernel
theorem dL_some_3 : decode cL_some 3 = .ok (.istore_n 2, 1) := by decide +kernel
theorem dL_some_4 : decode cL_some 4 = .ok (.iload_n 2, 1) := by decide +kernel
theorem dL_some_5 : decode cL_some 5 = .ok (.ifCond .ge 9, 3) := by decide +kernel
theorem dL_some_8 : decode cL_some 8 = .ok (.iload_n 2, 1) := by decide +kernel
theorem dL_some_9 : decode cL_some 9 = .ok (.iload_n 1, 1) := by decide +kernel
theorem dL_some_10 : decode cL_some 10 = .ok (.iadd, 1) := by decide +kernel
theorem dL_some_11 : decode cL_some 11 = .ok (.goto 4, 3) := by decide +kernel
theorem dL_some_14 : decode cL_some 14 = .ok (.iload_n 2, 1) := by decide +kernel
theorem dL_some_15 : decode cL_some 15 = .ok (.ireturn, 1) := by decide +kernel
theorem dL_plan_0 : decode cL_plan 0 = .ok (.aload_n 0, 1) := by decide +kernel
theorem dL_plan_1 : decode cL_plan 1 = .ok (.invokevirtual 7, 3) := by decide +kernel
theorem dL_plan_4 : decode cL_plan 4 = .ok (.ireturn, 1) := by decide +kernel
theorem dL_plan_5 : decode cL_plan 5 = .ok (.astore_n 1, 1) := by decide +kernel
theorem dL_plan_6 : decode cL_plan 6 = .ok (.sipush (-1001), 3) := by decide +kernel
theorem dL_plan_9 : decode cL_plan 9 = .ok (.ireturn, 1) := by decide +kernel
theorem dL_step_0 : decode cL_step 0 = .ok (.aload_n 0, 1) := by decide +kernel
theorem dL_step_1 : decode cL_step 1 = .ok (.iload_n 1, 1) := by decide +kernel
theorem dL_step_2 : decode cL_step 2 = .ok (.iload_n 2, 1) := by decide +kernel
theorem dL_step_3 : decode cL_step 3 = .ok (.iload_n 3, 1) := by decide +kernel
theorem dL_step_4 : decode cL_step 4 = .ok (.invokevirtual 15, 3) := by decide +kernel
theorem dL_step_7 : decode cL_step 7 = .ok (.ireturn, 1) := by decide +kernel
theorem dL_step_8 : decode cL_step 8 = .ok (.astore 4, 2) := by decide +kernel
theorem dL_step_10 : decode cL_step 10 = .ok (.sipush (-1001), 3) := by decide +kernel
theorem dL_step_13 : decode cL_step 13 = .ok (.ireturn, 1) := by decide +kernel
theorem dL_step_14 : decode cL_step 14 = .ok (.astore 4, 2) := by decide +kernel
theorem dL_step_16 : decode cL_step 16 = .ok (.sipush (-1002), 3) := by decide +kernel
theorem dL_step_19 : decode cL_step 19 = .ok (.ireturn, 1) := by decide +kernel
theorem dL_step_20 : decode cL_step 20 = .ok (.astore 4, 2) := by decide +kernel
theorem dL_step_22 : decode cL_step 22 = .ok (.sipush (-1003), 3) := by decide +kernel
theorem dL_step_25 : decode cL_step 25 = .ok (.ireturn, 1) := by decide +kernel
theorem dL_condition_0 : decode cL_condition 0 = .ok (.iload_n 3, 1) := by decide +kernel
theorem dL_condition_1 : decode cL_condition 1 = .ok (.ifCond .eq 22, 3) := by decide +kernel
theorem dL_condition_4 : decode cL_condition 4 = .ok (.aload_n 0, 1) := by decide +kernel
theorem dL_condition_5 : decode cL_condition 5 = .ok (.iload_n 1, 1) := by decide +kernel
theorem dL_condition_6 : decode cL_condition 6 = .ok (.iload_n 2, 1) := by decide +kernel
theorem dL_condition_7 : decode cL_condition 7 = .ok (.iload 4, 2) := by decide +kernel
theorem dL_condition_9 : decode cL_condition 9 = .ok (.aload 5, 2) := by decide +kernel
theorem dL_condition_11 : decode cL_condition 11 = .ok (.iconst 0, 1) := by decide +kernel
theorem dL_condition_12 : decode cL_condition 12 = .ok (.iaload, 1) := by decide +kernel
theorem dL_condition_13 : decode cL_condition 13 = .ok (.aload 5, 2) := by decide +kernel
theorem dL_condition_15 : decode cL_condition 15 = .ok (.iconst 1, 1) := by decide +kernel
theorem dL_condition_16 : decode cL_condition 16 = .ok (.iaload, 1) := by decide +kernel
theorem dL_condition_17 : decode cL_condition 17 = .ok (.invokevirtual 23, 3) := by decide +kernel
theorem dL_condition_20 : decode cL_condition 20 = .ok (.goto 19, 3) := by decide +kernel
theorem dL_condition_23 : decode cL_condition 23 = .ok (.aload_n 0, 1) := by decide +kernel
theorem dL_condition_24 : decode cL_condition 24 = .ok (.iload_n 1, 1) := by decide +kernel
theorem dL_condition_25 : decode cL_condition 25 = .ok (.iload_n 2, 1) := by decide +kernel
theorem dL_condition_26 : decode cL_condition 26 = .ok (.iload 4, 2) := by decide +kernel
theorem dL_condition_28 : decode cL_condition 28 = .ok (.aload 5, 2) := by decide +kernel
theorem dL_condition_30 : decode cL_condition 30 = .ok (.iconst 0, 1) := by decide +kernel
theorem dL_condition_31 : decode cL_condition 31 = .ok (.iaload, 1) := by decide +kernel
theorem dL_condition_32 : decode cL_condition 32 = .ok (.aload 5, 2) := by decide +kernel
theorem dL_condition_34 : decode cL_condition 34 = .ok (.iconst 1, 1) := by decide +kernel
theorem dL_condition_35 : decode cL_condition 35 = .ok (.iaload, 1) := by decide +kernel
theorem dL_condition_36 : decode cL_condition 36 = .ok (.invokevirtual 27, 3) := by decide +kernel
theorem dL_condition_39 : decode cL_condition 39 = .ok (.ireturn, 1) := by decide +kernel
theorem dL_condition_40 : decode cL_condition 40 = .ok (.astore 6, 2) := by decide +kernel
theorem dL_condition_42 : decode cL_condition 42 = .ok (.sipush (-1001), 3) := by decide +kernel
theorem dL_condition_45 : decode cL_condition 45 = .ok (.ireturn, 1) := by decide +kernel
theorem dL_condition_46 : decode cL_condition 46 = .ok (.astore 6, 2) := by decide +kernel
theorem dL_condition_48 : decode cL_condition 48 = .ok (.sipush (-1002), 3) := by decide +kernel
theorem dL_condition_51 : decode cL_condition 51 = .ok (.ireturn, 1) := by decide +kernel
theorem dL_condition_52 : decode cL_condition 52 = .ok (.astore 6, 2) := by decide +kernel
theorem dL_condition_54 : decode cL_condition 54 = .ok (.sipush (-1003), 3) := by decide +kernel
theorem dL_condition_57 : decode cL_condition 57 = .ok (.ireturn, 1) := by decide +kernel
theorem dL_condition_58 : decode cL_condition 58 = .ok (.astore 6, 2) := by decide +kernel
theorem dL_condition_60 : decode cL_condition 60 = .ok (.sipush (-1004), 3) := by decide +kernel
theorem dL_condition_63 : decode cL_condition 63 = .ok (.ireturn, 1) := by decide +kernel
theorem dL_flag_0 : decode cL_flag 0 = .ok (.iload_n 3, 1) := by decide +kernel
theorem dL_flag_1 : decode cL_flag 1 = .ok (.bipush 116, 2) := by decide +kernel
theorem dL_flag_3 : decode cL_flag 3 = .ok (.if_icmp .ne 17, 3) := by decide +kernel
theorem dL_flag_6 : decode cL_flag 6 = .ok (.aload_n 0, 1) := by decide +kernel
theorem dL_flag_7 : decode cL_flag 7 = .ok (.iload_n 1, 1) := by decide +kernel
theorem dL_flag_8 : decode cL_flag 8 = .ok (.iload_n 2, 1) := by decide +kernel
theorem dL_flag_9 : decode cL_flag 9 = .ok (.iload 4, 2) := by decide +kernel
theorem dL_flag_11 : decode cL_flag 11 = .ok (.invokevirtual 32, 3) := by decide +kernel
theorem dL_flag_14 : decode cL_flag 14 = .ok (.ifCond .eq 21, 3) := by decide +kernel
theorem dL_flag_17 : decode cL_flag 17 = .ok (.goto 14, 3) := by decide +kernel
theorem dL_flag_20 : decode cL_flag 20 = .ok (.aload_n 0, 1) := by decide +kernel
theorem dL_flag_21 : decode cL_flag 21 = .ok (.iload_n 1, 1) := by decide +kernel
theorem dL_flag_22 : decode cL_flag 22 = .ok (.iload_n 2, 1) := by decide +kernel
theorem dL_flag_23 : decode cL_flag 23 = .ok (.iload 4, 2) := by decide +kernel
theorem dL_flag_25 : decode cL_flag 25 = .ok (.invokevirtual 36, 3) := by decide +kernel
theorem dL_flag_28 : decode cL_flag 28 = .ok (.ifCond .eq 7, 3) := by decide +kernel
theorem dL_flag_31 : decode cL_flag 31 = .ok (.iconst 1, 1) := by decide +kernel
theorem dL_flag_32 : decode cL_flag 32 = .ok (.goto 4, 3) := by decide +kernel
theorem dL_flag_35 : decode cL_flag 35 = .ok (.iconst 0, 1) := by decide +kernel
theorem dL_flag_36 : decode cL_flag 36 = .ok (.ireturn, 1) := by decide +kernel
theorem dL_flag_37 : decode cL_flag 37 = .ok (.astore 5, 2) := by decide +kernel
theorem dL_flag_39 : decode cL_flag 39 = .ok (.sipush (-1001), 3) := by decide +kernel
theorem dL_flag_42 : decode cL_flag 42 = .ok (.ireturn, 1) := by decide +kernel
theorem dL_flag_43 : decode cL_flag 43 = .ok (.astore 5, 2) := by decide +kernel
theorem dL_flag_45 : decode cL_flag 45 = .ok (.sipush (-1002), 3) := by decide +kernel
theorem dL_flag_48 : decode cL_flag 48 = .ok (.ireturn, 1) := by decide +kernel
theorem dL_flag_49 : decode cL_flag 49 = .ok (.astore 5, 2) := by decide +kernel
theorem dL_flag_51 : decode cL_flag 51 = .ok (.sipush (-1003), 3) := by decide +kernel
theorem dL_flag_54 : decode cL_flag 54 = .ok (.ireturn, 1) := by decide +kernel
theorem dL_limit_0 : decode cL_limit 0 = .ok (.aload_n 0, 1) := by decide +kernel
theorem dL_limit_1 : decode cL_limit 1 = .ok (.iload_n 1, 1) := by decide +kernel
theorem dL_limit_2 : decode cL_limit 2 = .ok (.iload_n 2, 1) := by decide +kernel
theorem dL_limit_3 : decode cL_limit 3 = .ok (.iload_n 3, 1) := by decide +kernel
theorem dL_limit_4 : decode cL_limit 4 = .ok (.invokevirtual 39, 3) := by decide +kernel
theorem dL_limit_7 : decode cL_limit 7 = .ok (.ireturn, 1) := by decide +kernel
theorem dL_limit_8 : decode cL_limit 8 = .ok (.astore 4, 2) := by decide +kernel
theorem dL_limit_10 : decode cL_limit 10 = .ok (.sipush (-1001), 3) := by decide +kernel
theorem dL_limit_13 : decode cL_limit 13 = .ok (.ireturn, 1) := by decide +kernel
theorem dL_limit_14 : decode cL_limit 14 = .ok (.astore 4, 2) := by decide +kernel
theorem dL_limit_16 : decode cL_limit 16 = .ok (.sipush (-1002), 3) := by decide +kernel
theorem dL_limit_19 : decode cL_limit 19 = .ok (.ireturn, 1) := by decide +kernel
theorem dL_limit_20 : decode cL_limit 20 = .ok (.astore 4, 2) := by decide +kernel
theorem dL_limit_22 : decode cL_limit 22 = .ok (.sipush (-1003), 3) := by decide +kernel
theorem dL_limit_25 : decode cL_limit 25 = .ok (.ireturn, 1) := by decide +kernel
theorem dL_limit_26 : decode cL_limit 26 = .ok (.astore 4, 2) := by decide +kernel
theorem dL_limit_28 : decode cL_limit 28 = .ok (.sipush (-1004), 3) := by decide +kernel
theorem dL_limit_31 : decode cL_limit 31 = .ok (.ireturn, 1) := by decide +kernel
theorem dL_of_0 : decode cL_of 0 = .ok (.iload_n 2, 1) := by decide +kernel
theorem dL_of_1 : decode cL_of 1 = .ok (.ifCond .eq 19, 3) := by decide +kernel
theorem dL_of_4 : decode cL_of 4 = .ok (.aload_n 0, 1) := by decide +kernel
theorem dL_of_5 : decode cL_of 5 = .ok (.iload_n 1, 1) := by decide +kernel
theorem dL_of_6 : decode cL_of 6 = .ok (.invokevirtual 43, 3) := by decide +kernel
theorem dL_of_9 : decode cL_of 9 = .ok (.ifCond .eq 7, 3) := by decide +kernel
theorem dL_of_12 : decode cL_of 12 = .ok (.iconst 1, 1) := by decide +kernel
theorem dL_of_13 : decode cL_of 13 = .ok (.goto 12, 3) := by decide +kernel
theorem dL_of_16 : decode cL_of 16 = .ok (.iconst 0, 1) := by decide +kernel
theorem dL_of_17 : decode cL_of 17 = .ok (.goto 8, 3) := by decide +kernel
theorem dL_of_20 : decode cL_of 20 = .ok (.aload_n 0, 1) := by decide +kernel
theorem dL_of_21 : decode cL_of 21 = .ok (.iload_n 1, 1) := by decide +kernel
theorem dL_of_22 : decode cL_of 22 = .ok (.invokevirtual 47, 3) := by decide +kernel
theorem dL_of_25 : decode cL_of 25 = .ok (.ireturn, 1) := by decide +kernel
theorem dL_of_26 : decode cL_of 26 = .ok (.astore_n 3, 1) := by decide +kernel
theorem dL_of_27 : decode cL_of 27 = .ok (.sipush (-1001), 3) := by decide +kernel
theorem dL_of_30 : decode cL_of 30 = .ok (.ireturn, 1) := by decide +kernel
theorem dL_begin_0 : decode cL_begin 0 = .ok (.aload_n 0, 1) := by decide +kernel
theorem dL_begin_1 : decode cL_begin 1 = .ok (.iload_n 1, 1) := by decide +kernel
theorem dL_begin_2 : decode cL_begin 2 = .ok (.invokevirtual 51, 3) := by decide +kernel
theorem dL_begin_5 : decode cL_begin 5 = .ok (.ireturn, 1) := by decide +kernel
theorem dL_begin_6 : decode cL_begin 6 = .ok (.astore_n 2, 1) := by decide +kernel
theorem dL_begin_7 : decode cL_begin 7 = .ok (.sipush (-1001), 3) := by decide +kernel
theorem dL_begin_10 : decode cL_begin 10 = .ok (.ireturn, 1) := by decide +kernel
theorem dL_begin_11 : decode cL_begin 11 = .ok (.astore_n 2, 1) := by decide +kernel
theorem dL_begin_12 : decode cL_begin 12 = .ok (.sipush (-1002), 3) := by decide +kernel
theorem dL_begin_15 : decode cL_begin 15 = .ok (.ireturn, 1) := by decide +kernel
theorem dL_happens_0 : decode cL_happens 0 = .ok (.iload_n 2, 1) := by decide +kernel
theorem dL_happens_1 : decode cL_happens 1 = .ok (.bipush 100, 2) := by decide +kernel
theorem dL_happens_3 : decode cL_happens 3 = .ok (.if_icmp .ne 14, 3) := by decide +kernel
theorem dL_happens_6 : decode cL_happens 6 = .ok (.aload_n 0, 1) := by decide +kernel
theorem dL_happens_7 : decode cL_happens 7 = .ok (.iload_n 1, 1) := by decide +kernel
theorem dL_happens_8 : decode cL_happens 8 = .ok (.iload_n 3, 1) := by decide +kernel
theorem dL_happens_9 : decode cL_happens 9 = .ok (.iload 4, 2) := by decide +kernel
theorem dL_happens_11 : decode cL_happens 11 = .ok (.invokevirtual 54, 3) := by decide +kernel
theorem dL_happens_14 : decode cL_happens 14 = .ok (.goto 24, 3) := by decide +kernel
theorem dL_happens_17 : decode cL_happens 17 = .ok (.iload_n 2, 1) := by decide +kernel
theorem dL_happens_18 : decode cL_happens 18 = .ok (.bipush 101, 2) := by decide +kernel
theorem dL_happens_20 : decode cL_happens 20 = .ok (.if_icmp .ne 12, 3) := by decide +kernel
theorem dL_happens_23 : decode cL_happens 23 = .ok (.aload_n 0, 1) := by decide +kernel
theorem dL_happens_24 : decode cL_happens 24 = .ok (.iload_n 1, 1) := by decide +kernel
theorem dL_happens_25 : decode cL_happens 25 = .ok (.iload_n 3, 1) := by decide +kernel
theorem dL_happens_26 : decode cL_happens 26 = .ok (.invokevirtual 57, 3) := by decide +kernel
theorem dL_happens_29 : decode cL_happens 29 = .ok (.goto 9, 3) := by decide +kernel
theorem dL_happens_32 : decode cL_happens 32 = .ok (.aload_n 0, 1) := by decide +kernel
theorem dL_happens_33 : decode cL_happens 33 = .ok (.iload_n 1, 1) := by decide +kernel
theorem dL_happens_34 : decode cL_happens 34 = .ok (.iload_n 3, 1) := by decide +kernel
theorem dL_happens_35 : decode cL_happens 35 = .ok (.invokevirtual 61, 3) := by decide +kernel
theorem dL_happens_38 : decode cL_happens 38 = .ok (.ireturn, 1) := by decide +kernel
theorem dL_happens_39 : decode cL_happens 39 = .ok (.astore 5, 2) := by decide +kernel
theorem dL_happens_41 : decode cL_happens 41 = .ok (.sipush (-1001), 3) := by decide +kernel
theorem dL_happens_44 : decode cL_happens 44 = .ok (.ireturn, 1) := by decide +kernel
theorem dL_happens_45 : decode cL_happens 45 = .ok (.astore 5, 2) := by decide +kernel
theorem dL_happens_47 : decode cL_happens 47 = .ok (.sipush (-1002), 3) := by decide +kernel
theorem dL_happens_50 : decode cL_happens 50 = .ok (.ireturn, 1) := by decide +kernel
theorem dL_complete_0 : decode cL_complete 0 = .ok (.aload_n 0, 1) := by decide +kernel
theorem dL_complete_1 : decode cL_complete 1 = .ok (.iload_n 1, 1) := by decide +kernel
theorem dL_complete_2 : decode cL_complete 2 = .ok (.iload_n 2, 1) := by decide +kernel
theorem dL_complete_3 : decode cL_complete 3 = .ok (.invokevirtual 64, 3) := by decide +kernel
theorem dL_complete_6 : decode cL_complete 6 = .ok (.ireturn, 1) := by decide +kernel
theorem dL_complete_7 : decode cL_complete 7 = .ok (.astore_n 3, 1) := by decide +kernel
theorem dL_complete_8 : decode cL_complete 8 = .ok (.sipush (-1001), 3) := by decide +kernel
theorem dL_complete_11 : decode cL_complete 11 = .ok (.ireturn, 1) := by decide +kernel
theorem dL_complete_12 : decode cL_complete 12 = .ok (.astore_n 3, 1) := by decide +kernel
theorem dL_complete_13 : decode cL_complete 13 = .ok (.sipush (-1002), 3) := by decide +kernel
theorem dL_complete_16 : decode cL_complete 16 = .ok (.ireturn, 1) := by decide +kernel
theorem dL_complete_17 : decode cL_complete 17 = .ok (.astore_n 3, 1) := by decide +kernel
theorem dL_complete_18 : decode cL_complete 18 = .ok (.sipush (-1003), 3) := by decide +kernel
theorem dL_complete_21 : decode cL_complete 21 = .ok (.ireturn, 1) := by decide +kernel
theorem dL_waiting_0 : decode cL_waiting 0 = .ok (.aload_n 0, 1) := by decide +kernel
theorem dL_waiting_1 : decode cL_waiting 1 = .ok (.iload_n 1, 1) := by decide +kernel
theorem dL_waiting_2 : decode cL_waiting 2 = .ok (.iload_n 2, 1) := by decide +kernel
theorem dL_waiting_3 : decode cL_waiting 3 = .ok (.invokevirtual 67, 3) := by decide +kernel
theorem dL_waiting_6 : decode cL_waiting 6 = .ok (.ifCond .eq 7, 3) := by decide +kernel
theorem dL_waiting_9 : decode cL_waiting 9 = .ok (.iconst 1, 1) := by decide +kernel
theorem dL_waiting_10 : decode cL_waiting 10 = .ok (.goto 4, 3) := by decide +kernel
theorem dL_waiting_13 : decode cL_waiting 13 = .ok (.iconst 0, 1) := by decide +kernel
theorem dL_waiting_14 : decode cL_waiting 14 = .ok (.ireturn, 1) := by decide +kernel
theorem dL_waiting_15 : decode cL_waiting 15 = .ok (.astore_n 3, 1) := by decide +kernel
theorem dL_waiting_16 : decode cL_waiting 16 = .ok (.sipush (-1001), 3) := by decide +kernel
theorem dL_waiting_19 : decode cL_waiting 19 = .ok (.ireturn, 1) := by decide +kernel
theorem dL_pass_0 : decode cL_pass 0 = .ok (.aload_n 0, 1) := by decide +kernel
theorem dL_pass_1 : decode cL_pass 1 = .ok (.iload_n 1, 1) := by decide +kernel
theorem dL_pass_2 : decode cL_pass 2 = .ok (.invokevirtual 71, 3) := by decide +kernel
theorem dL_pass_5 : decode cL_pass 5 = .ok (.ireturn, 1) := by decide +kernel
theorem dL_pass_6 : decode cL_pass 6 = .ok (.astore_n 2, 1) := by decide +kernel
theorem dL_pass_7 : decode cL_pass 7 = .ok (.sipush (-1001), 3) := by decide +kernel
theorem dL_pass_10 : decode cL_pass 10 = .ok (.ireturn, 1) := by decide +kernel
theorem dL_at_0 : decode cL_at 0 = .ok (.iload_n 3, 1) := by decide +kernel
theorem dL_at_1 : decode cL_at 1 = .ok (.ifCond .ne 12, 3) := by decide +kernel
theorem dL_at_4 : decode cL_at 4 = .ok (.aload_n 0, 1) := by decide +kernel
theorem dL_at_5 : decode cL_at 5 = .ok (.iload_n 1, 1) := by decide +kernel
theorem dL_at_6 : decode cL_at 6 = .ok (.iload_n 2, 1) := by decide +kernel
theorem dL_at_7 : decode cL_at 7 = .ok (.invokevirtual 74, 3) := by decide +kernel
theorem dL_at_10 : decode cL_at 10 = .ok (.goto 73, 3) := by decide +kernel
theorem dL_at_13 : decode cL_at 13 = .ok (.iload_n 3, 1) := by decide +kernel
theorem dL_at_14 : decode cL_at 14 = .ok (.iconst 1, 1) := by decide +kernel
theorem dL_at_15 : decode cL_at 15 = .ok (.if_icmp .ne 12, 3) := by decide +kernel
theorem dL_at_18 : decode cL_at 18 = .ok (.aload_n 0, 1) := by decide +kernel
theorem dL_at_19 : decode cL_at 19 = .ok (.iload_n 1, 1) := by decide +kernel
theorem dL_at_20 : decode cL_at 20 = .ok (.iload_n 2, 1) := by decide +kernel
theorem dL_at_21 : decode cL_at 21 = .ok (.invokevirtual 78, 3) := by decide +kernel
theorem dL_at_24 : decode cL_at 24 = .ok (.goto 59, 3) := by decide +kernel
theorem dL_at_27 : decode cL_at 27 = .ok (.iload_n 3, 1) := by decide +kernel
theorem dL_at_28 : decode cL_at 28 = .ok (.iconst 2, 1) := by decide +kernel
theorem dL_at_29 : decode cL_at 29 = .ok (.if_icmp .ne 12, 3) := by decide +kernel
theorem dL_at_32 : decode cL_at 32 = .ok (.aload_n 0, 1) := by decide +kernel
theorem dL_at_33 : decode cL_at 33 = .ok (.iload_n 1, 1) := by decide +kernel
theorem dL_at_34 : decode cL_at 34 = .ok (.iload_n 2, 1) := by decide +kernel
theorem dL_at_35 : decode cL_at 35 = .ok (.invokevirtual 81, 3) := by decide +kernel
theorem dL_at_38 : decode cL_at 38 = .ok (.goto 45, 3) := by decide +kernel
theorem dL_at_41 : decode cL_at 41 = .ok (.iload_n 3, 1) := by decide +kernel
theorem dL_at_42 : decode cL_at 42 = .ok (.iconst 3, 1) := by decide +kernel
theorem dL_at_43 : decode cL_at 43 = .ok (.if_icmp .ne 12, 3) := by decide +kernel
theorem dL_at_46 : decode cL_at 46 = .ok (.aload_n 0, 1) := by decide +kernel
theorem dL_at_47 : decode cL_at 47 = .ok (.iload_n 1, 1) := by decide +kernel
theorem dL_at_48 : decode cL_at 48 = .ok (.iload_n 2, 1) := by decide +kernel
theorem dL_at_49 : decode cL_at 49 = .ok (.invokevirtual 84, 3) := by decide +kernel
theorem dL_at_52 : decode cL_at 52 = .ok (.goto 31, 3) := by decide +kernel
theorem dL_at_55 : decode cL_at 55 = .ok (.iload_n 3, 1) := by decide +kernel
theorem dL_at_56 : decode cL_at 56 = .ok (.iconst 4, 1) := by decide +kernel
theorem dL_at_57 : decode cL_at 57 = .ok (.if_icmp .ne 12, 3) := by decide +kernel
theorem dL_at_60 : decode cL_at 60 = .ok (.aload_n 0, 1) := by decide +kernel
theorem dL_at_61 : decode cL_at 61 = .ok (.iload_n 1, 1) := by decide +kernel
theorem dL_at_62 : decode cL_at 62 = .ok (.iload_n 2, 1) := by decide +kernel
theorem dL_at_63 : decode cL_at 63 = .ok (.invokevirtual 87, 3) := by decide +kernel
theorem dL_at_66 : decode cL_at 66 = .ok (.goto 17, 3) := by decide +kernel
theorem dL_at_69 : decode cL_at 69 = .ok (.aload_n 0, 1) := by decide +kernel
theorem dL_at_70 : decode cL_at 70 = .ok (.iload_n 1, 1) := by decide +kernel
theorem dL_at_71 : decode cL_at 71 = .ok (.iload_n 2, 1) := by decide +kernel
theorem dL_at_72 : decode cL_at 72 = .ok (.invokevirtual 90, 3) := by decide +kernel
theorem dL_at_75 : decode cL_at 75 = .ok (.ifCond .eq 7, 3) := by decide +kernel
theorem dL_at_78 : decode cL_at 78 = .ok (.iconst 1, 1) := by decide +kernel
theorem dL_at_79 : decode cL_at 79 = .ok (.goto 4, 3) := by decide +kernel
theorem dL_at_82 : decode cL_at 82 = .ok (.iconst 0, 1) := by decide +kernel
theorem dL_at_83 : decode cL_at 83 = .ok (.ireturn, 1) := by decide +kernel
theorem dL_at_84 : decode cL_at 84 = .ok (.astore 4, 2) := by decide +kernel
theorem dL_at_86 : decode cL_at 86 = .ok (.sipush (-1001), 3) := by decide +kernel
theorem dL_at_89 : decode cL_at 89 = .ok (.ireturn, 1) := by decide +kernel
theorem dL_holds_0 : decode cL_holds 0 = .ok (.aload_n 0, 1) := by decide +kernel
theorem dL_holds_1 : decode cL_holds 1 = .ok (.iload_n 1, 1) := by decide +kernel
theorem dL_holds_2 : decode cL_holds 2 = .ok (.iload_n 2, 1) := by decide +kernel
theorem dL_holds_3 : decode cL_holds 3 = .ok (.iload_n 3, 1) := by decide +kernel
theorem dL_holds_4 : decode cL_holds 4 = .ok (.iload 4, 2) := by decide +kernel
theorem dL_holds_6 : decode cL_holds 6 = .ok (.invokevirtual 94, 3) := by decide +kernel
theorem dL_holds_9 : decode cL_holds 9 = .ok (.ifCond .eq 7, 3) := by decide +kernel
theorem dL_holds_12 : decode cL_holds 12 = .ok (.iconst 1, 1) := by decide +kernel
theorem dL_holds_13 : decode cL_holds 13 = .ok (.goto 4, 3) := by decide +kernel
theorem dL_holds_16 : decode cL_holds 16 = .ok (.iconst 0, 1) := by decide +kernel
theorem dL_holds_17 : decode cL_holds 17 = .ok (.ireturn, 1) := by decide +kernel
theorem dL_holds_18 : decode cL_holds 18 = .ok (.astore 5, 2) := by decide +kernel
theorem dL_holds_20 : decode cL_holds 20 = .ok (.sipush (-1001), 3) := by decide +kernel
theorem dL_holds_23 : decode cL_holds 23 = .ok (.ireturn, 1) := by decide +kernel
theorem dL_holds_24 : decode cL_holds 24 = .ok (.astore 5, 2) := by decide +kernel
theorem dL_holds_26 : decode cL_holds 26 = .ok (.sipush (-1002), 3) := by decide +kernel
theorem dL_holds_29 : decode cL_holds 29 = .ok (.ireturn, 1) := by decide +kernel
theorem dL_case0_0 : decode cL_case0 0 = .ok (.iload_n 2, 1) := by decide +kernel
theorem dL_case0_1 : decode cL_case0 1 = .ok (.tableswitch 101 0 6 #[43, 49, 63, 69, 75, 81, 95], 43) := by decide +kernel
theorem dL_case0_44 : decode cL_case0 44 = .ok (.aload_n 0, 1) := by decide +kernel
theorem dL_case0_45 : decode cL_case0 45 = .ok (.iload_n 1, 1) := by decide +kernel
theorem dL_case0_46 : decode cL_case0 46 = .ok (.invokevirtual 100, 3) := by decide +kernel
theorem dL_case0_49 : decode cL_case0 49 = .ok (.ireturn, 1) := by decide +kernel
theorem dL_case0_50 : decode cL_case0 50 = .ok (.aload_n 0, 1) := by decide +kernel
theorem dL_case0_51 : decode cL_case0 51 = .ok (.iload_n 1, 1) := by decide +kernel
theorem dL_case0_52 : decode cL_case0 52 = .ok (.invokevirtual 103, 3) := by decide +kernel
theorem dL_case0_55 : decode cL_case0 55 = .ok (.ifCond .eq 7, 3) := by decide +kernel
theorem dL_case0_58 : decode cL_case0 58 = .ok (.iconst 1, 1) := by decide +kernel
theorem dL_case0_59 : decode cL_case0 59 = .ok (.goto 4, 3) := by decide +kernel
theorem dL_case0_62 : decode cL_case0 62 = .ok (.iconst 0, 1) := by decide +kernel
theorem dL_case0_63 : decode cL_case0 63 = .ok (.ireturn, 1) := by decide +kernel
theorem dL_case0_64 : decode cL_case0 64 = .ok (.aload_n 0, 1) := by decide +kernel
theorem dL_case0_65 : decode cL_case0 65 = .ok (.iload_n 1, 1) := by decide +kernel
theorem dL_case0_66 : decode cL_case0 66 = .ok (.invokevirtual 106, 3) := by decide +kernel
theorem dL_case0_69 : decode cL_case0 69 = .ok (.ireturn, 1) := by decide +kernel
theorem dL_case0_70 : decode cL_case0 70 = .ok (.aload_n 0, 1) := by decide +kernel
theorem dL_case0_71 : decode cL_case0 71 = .ok (.iload_n 1, 1) := by decide +kernel
theorem dL_case0_72 : decode cL_case0 72 = .ok (.invokevirtual 109, 3) := by decide +kernel
theorem dL_case0_75 : decode cL_case0 75 = .ok (.ireturn, 1) := by decide +kernel
theorem dL_case0_76 : decode cL_case0 76 = .ok (.aload_n 0, 1) := by decide +kernel
theorem dL_case0_77 : decode cL_case0 77 = .ok (.iload_n 1, 1) := by decide +kernel
theorem dL_case0_78 : decode cL_case0 78 = .ok (.invokevirtual 112, 3) := by decide +kernel
theorem dL_case0_81 : decode cL_case0 81 = .ok (.ireturn, 1) := by decide +kernel
theorem dL_case0_82 : decode cL_case0 82 = .ok (.aload_n 0, 1) := by decide +kernel
theorem dL_case0_83 : decode cL_case0 83 = .ok (.iload_n 1, 1) := by decide +kernel
theorem dL_case0_84 : decode cL_case0 84 = .ok (.invokevirtual 115, 3) := by decide +kernel
theorem dL_case0_87 : decode cL_case0 87 = .ok (.ifCond .eq 7, 3) := by decide +kernel
theorem dL_case0_90 : decode cL_case0 90 = .ok (.iconst 1, 1) := by decide +kernel
theorem dL_case0_91 : decode cL_case0 91 = .ok (.goto 4, 3) := by decide +kernel
theorem dL_case0_94 : decode cL_case0 94 = .ok (.iconst 0, 1) := by decide +kernel
theorem dL_case0_95 : decode cL_case0 95 = .ok (.ireturn, 1) := by decide +kernel
theorem dL_case0_96 : decode cL_case0 96 = .ok (.aload_n 0, 1) := by decide +kernel
theorem dL_case0_97 : decode cL_case0 97 = .ok (.iload_n 1, 1) := by decide +kernel
theorem dL_case0_98 : decode cL_case0 98 = .ok (.invokevirtual 118, 3) := by decide +kernel
theorem dL_case0_101 : decode cL_case0 101 = .ok (.ireturn, 1) := by decide +kernel
theorem dL_case0_102 : decode cL_case0 102 = .ok (.aload_n 0, 1) := by decide +kernel
theorem dL_case0_103 : decode cL_case0 103 = .ok (.iload_n 1, 1) := by decide +kernel
theorem dL_case0_104 : decode cL_case0 104 = .ok (.invokevirtual 121, 3) := by decide +kernel
theorem dL_case0_107 : decode cL_case0 107 = .ok (.ireturn, 1) := by decide +kernel
theorem dL_case0_108 : decode cL_case0 108 = .ok (.astore_n 3, 1) := by decide +kernel
theorem dL_case0_109 : decode cL_case0 109 = .ok (.sipush (-1001), 3) := by decide +kernel
theorem dL_case0_112 : decode cL_case0 112 = .ok (.ireturn, 1) := by decide +kernel
theorem dL_case0_113 : decode cL_case0 113 = .ok (.astore_n 3, 1) := by decide +kernel
theorem dL_case0_114 : decode cL_case0 114 = .ok (.sipush (-1002), 3) := by decide +kernel
theorem dL_case0_117 : decode cL_case0 117 = .ok (.ireturn, 1) := by decide +kernel
theorem dL_datum_0 : decode cL_datum 0 = .ok (.aload_n 0, 1) := by decide +kernel
theorem dL_datum_1 : decode cL_datum 1 = .ok (.iload_n 1, 1) := by decide +kernel
theorem dL_datum_2 : decode cL_datum 2 = .ok (.iload_n 2, 1) := by decide +kernel
theorem dL_datum_3 : decode cL_datum 3 = .ok (.invokevirtual 124, 3) := by decide +kernel
theorem dL_datum_6 : decode cL_datum 6 = .ok (.ireturn, 1) := by decide +kernel
theorem dL_datum_7 : decode cL_datum 7 = .ok (.astore_n 3, 1) := by decide +kernel
theorem dL_datum_8 : decode cL_datum 8 = .ok (.sipush (-1001), 3) := by decide +kernel
theorem dL_datum_11 : decode cL_datum 11 = .ok (.ireturn, 1) := by decide +kernel
theorem dL_datum_12 : decode cL_datum 12 = .ok (.astore_n 3, 1) := by decide +kernel
theorem dL_datum_13 : decode cL_datum 13 = .ok (.sipush (-1002), 3) := by decide +kernel
theorem dL_datum_16 : decode cL_datum 16 = .ok (.ireturn, 1) := by decide +kernel
theorem dL_share_0 : decode cL_share 0 = .ok (.aload_n 0, 1) := by decide +kernel
theorem dL_share_1 : decode cL_share 1 = .ok (.iload_n 1, 1) := by decide +kernel
theorem dL_share_2 : decode cL_share 2 = .ok (.invokevirtual 127, 3) := by decide +kernel
theorem dL_share_5 : decode cL_share 5 = .ok (.freturn, 1) := by decide +kernel
theorem dL_share_6 : decode cL_share 6 = .ok (.astore_n 2, 1) := by decide +kernel
theorem dL_share_7 : decode cL_share 7 = .ok (.ldc 131, 2) := by decide +kernel
theorem dL_share_9 : decode cL_share 9 = .ok (.freturn, 1) := by decide +kernel
theorem dL_plans_0 : decode cL_plans 0 = .ok (.iconst 0, 1) := by decide +kernel
theorem dL_plans_1 : decode cL_plans 1 = .ok (.istore_n 1, 1) := by decide +kernel
theorem dL_plans_2 : decode cL_plans 2 = .ok (.iload_n 1, 1) := by decide +kernel
theorem dL_plans_3 : decode cL_plans 3 = .ok (.iconst 3, 1) := by decide +kernel
theorem dL_plans_4 : decode cL_plans 4 = .ok (.if_icmp .ge 18, 3) := by decide +kernel
theorem dL_plans_7 : decode cL_plans 7 = .ok (.aload_n 0, 1) := by decide +kernel
theorem dL_plans_8 : decode cL_plans 8 = .ok (.iload_n 1, 1) := by decide +kernel
theorem dL_plans_9 : decode cL_plans 9 = .ok (.iconst 0, 1) := by decide +kernel
theorem dL_plans_10 : decode cL_plans 10 = .ok (.invokestatic 132, 3) := by decide +kernel
theorem dL_plans_13 : decode cL_plans 13 = .ok (.ifCond .lt 9, 3) := by decide +kernel
theorem dL_plans_16 : decode cL_plans 16 = .ok (.iinc 1 1, 3) := by decide +kernel
theorem dL_plans_19 : decode cL_plans 19 = .ok (.goto (-17), 3) := by decide +kernel
theorem dL_plans_22 : decode cL_plans 22 = .ok (.iload_n 1, 1) := by decide +kernel
theorem dL_plans_23 : decode cL_plans 23 = .ok (.ireturn, 1) := by decide +kernel
theorem dL_sum_0 : decode cL_sum 0 = .ok (.aload_n 0, 1) := by decide +kernel
theorem dL_sum_1 : decode cL_sum 1 = .ok (.invokevirtual 138, 3) := by decide +kernel
theorem dL_sum_4 : decode cL_sum 4 = .ok (.i2l, 1) := by decide +kernel
theorem dL_sum_5 : decode cL_sum 5 = .ok (.ldc2_w 141, 3) := by decide +kernel
theorem dL_sum_8 : decode cL_sum 8 = .ok (.aload_n 0, 1) := by decide +kernel
theorem dL_sum_9 : decode cL_sum 9 = .ok (.invokevirtual 143, 3) := by decide +kernel
theorem dL_sum_12 : decode cL_sum 12 = .ok (.lmul, 1) := by decide +kernel
theorem dL_sum_13 : decode cL_sum 13 = .ok (.ladd, 1) := by decide +kernel
theorem dL_sum_14 : decode cL_sum 14 = .ok (.lstore_n 1, 1) := by decide +kernel
theorem dL_sum_15 : decode cL_sum 15 = .ok (.iconst 0, 1) := by decide +kernel
theorem dL_sum_16 : decode cL_sum 16 = .ok (.istore_n 3, 1) := by decide +kernel
theorem dL_sum_17 : decode cL_sum 17 = .ok (.iload_n 3, 1) := by decide +kernel
theorem dL_sum_18 : decode cL_sum 18 = .ok (.iconst 3, 1) := by decide +kernel
theorem dL_sum_19 : decode cL_sum 19 = .ok (.if_icmp .ge 35, 3) := by decide +kernel
theorem dL_sum_22 : decode cL_sum 22 = .ok (.ldc2_w 141, 3) := by decide +kernel
theorem dL_sum_25 : decode cL_sum 25 = .ok (.lload_n 1, 1) := by decide +kernel
theorem dL_sum_26 : decode cL_sum 26 = .ok (.lmul, 1) := by decide +kernel
theorem dL_sum_27 : decode cL_sum 27 = .ok (.aload_n 0, 1) := by decide +kernel
theorem dL_sum_28 : decode cL_sum 28 = .ok (.iload_n 3, 1) := by decide +kernel
theorem dL_sum_29 : decode cL_sum 29 = .ok (.iconst 0, 1) := by decide +kernel
theorem dL_sum_30 : decode cL_sum 30 = .ok (.invokestatic 132, 3) := by decide +kernel
theorem dL_sum_33 : decode cL_sum 33 = .ok (.i2l, 1) := by decide +kernel
theorem dL_sum_34 : decode cL_sum 34 = .ok (.ladd, 1) := by decide +kernel
theorem dL_sum_35 : decode cL_sum 35 = .ok (.ldc2_w 147, 3) := by decide +kernel
theorem dL_sum_38 : decode cL_sum 38 = .ok (.aload_n 0, 1) := by decide +kernel
theorem dL_sum_39 : decode cL_sum 39 = .ok (.iload_n 3, 1) := by decide +kernel
theorem dL_sum_40 : decode cL_sum 40 = .ok (.iconst 1, 1) := by decide +kernel
theorem dL_sum_41 : decode cL_sum 41 = .ok (.invokestatic 132, 3) := by decide +kernel
theorem dL_sum_44 : decode cL_sum 44 = .ok (.i2l, 1) := by decide +kernel
theorem dL_sum_45 : decode cL_sum 45 = .ok (.lmul, 1) := by decide +kernel
theorem dL_sum_46 : decode cL_sum 46 = .ok (.ladd, 1) := by decide +kernel
theorem dL_sum_47 : decode cL_sum 47 = .ok (.lstore_n 1, 1) := by decide +kernel
theorem dL_sum_48 : decode cL_sum 48 = .ok (.iinc 3 1, 3) := by decide +kernel
theorem dL_sum_51 : decode cL_sum 51 = .ok (.goto (-34), 3) := by decide +kernel
theorem dL_sum_54 : decode cL_sum 54 = .ok (.iconst 0, 1) := by decide +kernel
theorem dL_sum_55 : decode cL_sum 55 = .ok (.istore_n 3, 1) := by decide +kernel
theorem dL_sum_56 : decode cL_sum 56 = .ok (.iload_n 3, 1) := by decide +kernel
theorem dL_sum_57 : decode cL_sum 57 = .ok (.aload_n 0, 1) := by decide +kernel
theorem dL_sum_58 : decode cL_sum 58 = .ok (.invokevirtual 138, 3) := by decide +kernel
theorem dL_sum_61 : decode cL_sum 61 = .ok (.if_icmp .ge 130, 3) := by decide +kernel
theorem dL_sum_64 : decode cL_sum 64 = .ok (.iconst 0, 1) := by decide +kernel
theorem dL_sum_65 : decode cL_sum 65 = .ok (.istore 4, 2) := by decide +kernel
theorem dL_sum_67 : decode cL_sum 67 = .ok (.iload 4, 2) := by decide +kernel
theorem dL_sum_69 : decode cL_sum 69 = .ok (.bipush 7, 2) := by decide +kernel
theorem dL_sum_71 : decode cL_sum 71 = .ok (.if_icmp .ge 24, 3) := by decide +kernel
theorem dL_sum_74 : decode cL_sum 74 = .ok (.ldc2_w 141, 3) := by decide +kernel
theorem dL_sum_77 : decode cL_sum 77 = .ok (.lload_n 1, 1) := by decide +kernel
theorem dL_sum_78 : decode cL_sum 78 = .ok (.lmul, 1) := by decide +kernel
theorem dL_sum_79 : decode cL_sum 79 = .ok (.aload_n 0, 1) := by decide +kernel
theorem dL_sum_80 : decode cL_sum 80 = .ok (.iload_n 3, 1) := by decide +kernel
theorem dL_sum_81 : decode cL_sum 81 = .ok (.iload 4, 2) := by decide +kernel
theorem dL_sum_83 : decode cL_sum 83 = .ok (.invokestatic 149, 3) := by decide +kernel
theorem dL_sum_86 : decode cL_sum 86 = .ok (.i2l, 1) := by decide +kernel
theorem dL_sum_87 : decode cL_sum 87 = .ok (.ladd, 1) := by decide +kernel
theorem dL_sum_88 : decode cL_sum 88 = .ok (.lstore_n 1, 1) := by decide +kernel
theorem dL_sum_89 : decode cL_sum 89 = .ok (.iinc 4 1, 3) := by decide +kernel
theorem dL_sum_92 : decode cL_sum 92 = .ok (.goto (-25), 3) := by decide +kernel
theorem dL_sum_95 : decode cL_sum 95 = .ok (.iconst 0, 1) := by decide +kernel
theorem dL_sum_96 : decode cL_sum 96 = .ok (.istore 4, 2) := by decide +kernel
theorem dL_sum_98 : decode cL_sum 98 = .ok (.iload 4, 2) := by decide +kernel
theorem dL_sum_100 : decode cL_sum 100 = .ok (.iconst 4, 1) := by decide +kernel
theorem dL_sum_101 : decode cL_sum 101 = .ok (.if_icmp .ge 24, 3) := by decide +kernel
theorem dL_sum_104 : decode cL_sum 104 = .ok (.ldc2_w 141, 3) := by decide +kernel
theorem dL_sum_107 : decode cL_sum 107 = .ok (.lload_n 1, 1) := by decide +kernel
theorem dL_sum_108 : decode cL_sum 108 = .ok (.lmul, 1) := by decide +kernel
theorem dL_sum_109 : decode cL_sum 109 = .ok (.aload_n 0, 1) := by decide +kernel
theorem dL_sum_110 : decode cL_sum 110 = .ok (.iload_n 3, 1) := by decide +kernel
theorem dL_sum_111 : decode cL_sum 111 = .ok (.iload 4, 2) := by decide +kernel
theorem dL_sum_113 : decode cL_sum 113 = .ok (.invokestatic 153, 3) := by decide +kernel
theorem dL_sum_116 : decode cL_sum 116 = .ok (.i2l, 1) := by decide +kernel
theorem dL_sum_117 : decode cL_sum 117 = .ok (.ladd, 1) := by decide +kernel
theorem dL_sum_118 : decode cL_sum 118 = .ok (.lstore_n 1, 1) := by decide +kernel
theorem dL_sum_119 : decode cL_sum 119 = .ok (.iinc 4 1, 3) := by decide +kernel
theorem dL_sum_122 : decode cL_sum 122 = .ok (.goto (-24), 3) := by decide +kernel
theorem dL_sum_125 : decode cL_sum 125 = .ok (.iconst 0, 1) := by decide +kernel
theorem dL_sum_126 : decode cL_sum 126 = .ok (.istore 4, 2) := by decide +kernel
theorem dL_sum_128 : decode cL_sum 128 = .ok (.iload 4, 2) := by decide +kernel
theorem dL_sum_130 : decode cL_sum 130 = .ok (.bipush 8, 2) := by decide +kernel
theorem dL_sum_132 : decode cL_sum 132 = .ok (.if_icmp .ge 53, 3) := by decide +kernel
theorem dL_sum_135 : decode cL_sum 135 = .ok (.ldc2_w 141, 3) := by decide +kernel
theorem dL_sum_138 : decode cL_sum 138 = .ok (.lload_n 1, 1) := by decide +kernel
theorem dL_sum_139 : decode cL_sum 139 = .ok (.lmul, 1) := by decide +kernel
theorem dL_sum_140 : decode cL_sum 140 = .ok (.aload_n 0, 1) := by decide +kernel
theorem dL_sum_141 : decode cL_sum 141 = .ok (.iload_n 3, 1) := by decide +kernel
theorem dL_sum_142 : decode cL_sum 142 = .ok (.iload 4, 2) := by decide +kernel
theorem dL_sum_144 : decode cL_sum 144 = .ok (.iconst 0, 1) := by decide +kernel
theorem dL_sum_145 : decode cL_sum 145 = .ok (.invokestatic 155, 3) := by decide +kernel
theorem dL_sum_148 : decode cL_sum 148 = .ok (.i2l, 1) := by decide +kernel
theorem dL_sum_149 : decode cL_sum 149 = .ok (.ladd, 1) := by decide +kernel
theorem dL_sum_150 : decode cL_sum 150 = .ok (.ldc2_w 147, 3) := by decide +kernel
theorem dL_sum_153 : decode cL_sum 153 = .ok (.aload_n 0, 1) := by decide +kernel
theorem dL_sum_154 : decode cL_sum 154 = .ok (.iload_n 3, 1) := by decide +kernel
theorem dL_sum_155 : decode cL_sum 155 = .ok (.iload 4, 2) := by decide +kernel
theorem dL_sum_157 : decode cL_sum 157 = .ok (.iconst 2, 1) := by decide +kernel
theorem dL_sum_158 : decode cL_sum 158 = .ok (.invokestatic 155, 3) := by decide +kernel
theorem dL_sum_161 : decode cL_sum 161 = .ok (.i2l, 1) := by decide +kernel
theorem dL_sum_162 : decode cL_sum 162 = .ok (.lmul, 1) := by decide +kernel
theorem dL_sum_163 : decode cL_sum 163 = .ok (.ladd, 1) := by decide +kernel
theorem dL_sum_164 : decode cL_sum 164 = .ok (.ldc2_w 159, 3) := by decide +kernel
theorem dL_sum_167 : decode cL_sum 167 = .ok (.aload_n 0, 1) := by decide +kernel
theorem dL_sum_168 : decode cL_sum 168 = .ok (.iload_n 3, 1) := by decide +kernel
theorem dL_sum_169 : decode cL_sum 169 = .ok (.iload 4, 2) := by decide +kernel
theorem dL_sum_171 : decode cL_sum 171 = .ok (.iconst 4, 1) := by decide +kernel
theorem dL_sum_172 : decode cL_sum 172 = .ok (.invokestatic 155, 3) := by decide +kernel
theorem dL_sum_175 : decode cL_sum 175 = .ok (.i2l, 1) := by decide +kernel
theorem dL_sum_176 : decode cL_sum 176 = .ok (.lmul, 1) := by decide +kernel
theorem dL_sum_177 : decode cL_sum 177 = .ok (.ladd, 1) := by decide +kernel
theorem dL_sum_178 : decode cL_sum 178 = .ok (.lstore_n 1, 1) := by decide +kernel
theorem dL_sum_179 : decode cL_sum 179 = .ok (.iinc 4 1, 3) := by decide +kernel
theorem dL_sum_182 : decode cL_sum 182 = .ok (.goto (-54), 3) := by decide +kernel
theorem dL_sum_185 : decode cL_sum 185 = .ok (.iinc 3 1, 3) := by decide +kernel
theorem dL_sum_188 : decode cL_sum 188 = .ok (.goto (-132), 3) := by decide +kernel
theorem dL_sum_191 : decode cL_sum 191 = .ok (.lload_n 1, 1) := by decide +kernel
theorem dL_sum_192 : decode cL_sum 192 = .ok (.lreturn, 1) := by decide +kernel
theorem dL_isSound_0 : decode cL_isSound 0 = .ok (.lconst 0, 1) := by decide +kernel
theorem dL_isSound_1 : decode cL_isSound 1 = .ok (.lstore_n 1, 1) := by decide +kernel
theorem dL_isSound_2 : decode cL_isSound 2 = .ok (.iconst 0, 1) := by decide +kernel
theorem dL_isSound_3 : decode cL_isSound 3 = .ok (.istore_n 3, 1) := by decide +kernel
theorem dL_isSound_4 : decode cL_isSound 4 = .ok (.iload_n 3, 1) := by decide +kernel
theorem dL_isSound_5 : decode cL_isSound 5 = .ok (.aload_n 0, 1) := by decide +kernel
theorem dL_isSound_6 : decode cL_isSound 6 = .ok (.invokevirtual 138, 3) := by decide +kernel
theorem dL_isSound_9 : decode cL_isSound 9 = .ok (.if_icmp .ge 282, 3) := by decide +kernel
theorem dL_isSound_12 : decode cL_isSound 12 = .ok (.iconst 0, 1) := by decide +kernel
theorem dL_isSound_13 : decode cL_isSound 13 = .ok (.istore 4, 2) := by decide +kernel
theorem dL_isSound_15 : decode cL_isSound 15 = .ok (.iconst 0, 1) := by decide +kernel
theorem dL_isSound_16 : decode cL_isSound 16 = .ok (.istore 5, 2) := by decide +kernel
theorem dL_isSound_18 : decode cL_isSound 18 = .ok (.aload_n 0, 1) := by decide +kernel
theorem dL_isSound_19 : decode cL_isSound 19 = .ok (.aload_n 0, 1) := by decide +kernel
theorem dL_isSound_20 : decode cL_isSound 20 = .ok (.iload_n 3, 1) := by decide +kernel
theorem dL_isSound_21 : decode cL_isSound 21 = .ok (.iconst 4, 1) := by decide +kernel
theorem dL_isSound_22 : decode cL_isSound 22 = .ok (.invokestatic 149, 3) := by decide +kernel
theorem dL_isSound_25 : decode cL_isSound 25 = .ok (.iconst 0, 1) := by decide +kernel
theorem dL_isSound_26 : decode cL_isSound 26 = .ok (.invokestatic 132, 3) := by decide +kernel
theorem dL_isSound_29 : decode cL_isSound 29 = .ok (.istore 6, 2) := by decide +kernel
theorem dL_isSound_31 : decode cL_isSound 31 = .ok (.iconst 0, 1) := by decide +kernel
theorem dL_isSound_32 : decode cL_isSound 32 = .ok (.istore 7, 2) := by decide +kernel
theorem dL_isSound_34 : decode cL_isSound 34 = .ok (.iload 7, 2) := by decide +kernel
theorem dL_isSound_36 : decode cL_isSound 36 = .ok (.iload 6, 2) := by decide +kernel
theorem dL_isSound_38 : decode cL_isSound 38 = .ok (.if_icmp .ge 172, 3) := by decide +kernel
theorem dL_isSound_41 : decode cL_isSound 41 = .ok (.aload_n 0, 1) := by decide +kernel
theorem dL_isSound_42 : decode cL_isSound 42 = .ok (.iload_n 3, 1) := by decide +kernel
theorem dL_isSound_43 : decode cL_isSound 43 = .ok (.iload 7, 2) := by decide +kernel
theorem dL_isSound_45 : decode cL_isSound 45 = .ok (.iconst 0, 1) := by decide +kernel
theorem dL_isSound_46 : decode cL_isSound 46 = .ok (.invokestatic 155, 3) := by decide +kernel
theorem dL_isSound_49 : decode cL_isSound 49 = .ok (.istore 8, 2) := by decide +kernel
theorem dL_isSound_51 : decode cL_isSound 51 = .ok (.iload 8, 2) := by decide +kernel
theorem dL_isSound_53 : decode cL_isSound 53 = .ok (.aload_n 0, 1) := by decide +kernel
theorem dL_isSound_54 : decode cL_isSound 54 = .ok (.iload_n 3, 1) := by decide +kernel
theorem dL_isSound_55 : decode cL_isSound 55 = .ok (.iload 7, 2) := by decide +kernel
theorem dL_isSound_57 : decode cL_isSound 57 = .ok (.iconst 1, 1) := by decide +kernel
theorem dL_isSound_58 : decode cL_isSound 58 = .ok (.invokestatic 155, 3) := by decide +kernel
theorem dL_isSound_61 : decode cL_isSound 61 = .ok (.if_icmp .ne 95, 3) := by decide +kernel
theorem dL_isSound_64 : decode cL_isSound 64 = .ok (.aload_n 0, 1) := by decide +kernel
theorem dL_isSound_65 : decode cL_isSound 65 = .ok (.iload_n 3, 1) := by decide +kernel
theorem dL_isSound_66 : decode cL_isSound 66 = .ok (.iload 7, 2) := by decide +kernel
theorem dL_isSound_68 : decode cL_isSound 68 = .ok (.iconst 2, 1) := by decide +kernel
theorem dL_isSound_69 : decode cL_isSound 69 = .ok (.invokestatic 155, 3) := by decide +kernel
theorem dL_isSound_72 : decode cL_isSound 72 = .ok (.aload_n 0, 1) := by decide +kernel
theorem dL_isSound_73 : decode cL_isSound 73 = .ok (.iload_n 3, 1) := by decide +kernel
theorem dL_isSound_74 : decode cL_isSound 74 = .ok (.iload 7, 2) := by decide +kernel
theorem dL_isSound_76 : decode cL_isSound 76 = .ok (.iconst 3, 1) := by decide +kernel
theorem dL_isSound_77 : decode cL_isSound 77 = .ok (.invokestatic 155, 3) := by decide +kernel
theorem dL_isSound_80 : decode cL_isSound 80 = .ok (.if_icmp .ne 76, 3) := by decide +kernel
theorem dL_isSound_83 : decode cL_isSound 83 = .ok (.iload 8, 2) := by decide +kernel
theorem dL_isSound_85 : decode cL_isSound 85 = .ok (.bipush 105, 2) := by decide +kernel
theorem dL_isSound_87 : decode cL_isSound 87 = .ok (.if_icmp .eq 24, 3) := by decide +kernel
theorem dL_isSound_90 : decode cL_isSound 90 = .ok (.iload 8, 2) := by decide +kernel
theorem dL_isSound_92 : decode cL_isSound 92 = .ok (.bipush 97, 2) := by decide +kernel
theorem dL_isSound_94 : decode cL_isSound 94 = .ok (.if_icmp .eq 17, 3) := by decide +kernel
theorem dL_isSound_97 : decode cL_isSound 97 = .ok (.iload 8, 2) := by decide +kernel
theorem dL_isSound_99 : decode cL_isSound 99 = .ok (.bipush 99, 2) := by decide +kernel
theorem dL_isSound_101 : decode cL_isSound 101 = .ok (.if_icmp .eq 10, 3) := by decide +kernel
theorem dL_isSound_104 : decode cL_isSound 104 = .ok (.iload 8, 2) := by decide +kernel
theorem dL_isSound_106 : decode cL_isSound 106 = .ok (.bipush 120, 2) := by decide +kernel
theorem dL_isSound_108 : decode cL_isSound 108 = .ok (.if_icmp .ne 48, 3) := by decide +kernel
theorem dL_isSound_111 : decode cL_isSound 111 = .ok (.iload 8, 2) := by decide +kernel
theorem dL_isSound_113 : decode cL_isSound 113 = .ok (.bipush 97, 2) := by decide +kernel
theorem dL_isSound_115 : decode cL_isSound 115 = .ok (.if_icmp .eq 10, 3) := by decide +kernel
theorem dL_isSound_118 : decode cL_isSound 118 = .ok (.iload 8, 2) := by decide +kernel
theorem dL_isSound_120 : decode cL_isSound 120 = .ok (.bipush 99, 2) := by decide +kernel
theorem dL_isSound_122 : decode cL_isSound 122 = .ok (.if_icmp .ne 15, 3) := by decide +kernel
theorem dL_isSound_125 : decode cL_isSound 125 = .ok (.aload_n 0, 1) := by decide +kernel
theorem dL_isSound_126 : decode cL_isSound 126 = .ok (.iload_n 3, 1) := by decide +kernel
theorem dL_isSound_127 : decode cL_isSound 127 = .ok (.iload 7, 2) := by decide +kernel
theorem dL_isSound_129 : decode cL_isSound 129 = .ok (.iconst 4, 1) := by decide +kernel
theorem dL_isSound_130 : decode cL_isSound 130 = .ok (.invokestatic 155, 3) := by decide +kernel
theorem dL_isSound_133 : decode cL_isSound 133 = .ok (.iconst 1, 1) := by decide +kernel
theorem dL_isSound_134 : decode cL_isSound 134 = .ok (.if_icmp .lt 22, 3) := by decide +kernel
theorem dL_isSound_137 : decode cL_isSound 137 = .ok (.aload_n 0, 1) := by decide +kernel
theorem dL_isSound_138 : decode cL_isSound 138 = .ok (.iload_n 3, 1) := by decide +kernel
theorem dL_isSound_139 : decode cL_isSound 139 = .ok (.iload 7, 2) := by decide +kernel
theorem dL_isSound_141 : decode cL_isSound 141 = .ok (.iconst 5, 1) := by decide +kernel
theorem dL_isSound_142 : decode cL_isSound 142 = .ok (.invokestatic 155, 3) := by decide +kernel
theorem dL_isSound_145 : decode cL_isSound 145 = .ok (.iconst 1, 1) := by decide +kernel
theorem dL_isSound_146 : decode cL_isSound 146 = .ok (.if_icmp .ne 12, 3) := by decide +kernel
theorem dL_isSound_149 : decode cL_isSound 149 = .ok (.iload 8, 2) := by decide +kernel
theorem dL_isSound_151 : decode cL_isSound 151 = .ok (.bipush 97, 2) := by decide +kernel
theorem dL_isSound_153 : decode cL_isSound 153 = .ok (.if_icmp .eq 5, 3) := by decide +kernel
theorem dL_isSound_156 : decode cL_isSound 156 = .ok (.iconst 0, 1) := by decide +kernel
theorem dL_isSound_157 : decode cL_isSound 157 = .ok (.ireturn, 1) := by decide +kernel
theorem dL_isSound_158 : decode cL_isSound 158 = .ok (.iload 4, 2) := by decide +kernel
theorem dL_isSound_160 : decode cL_isSound 160 = .ok (.iload 8, 2) := by decide +kernel
theorem dL_isSound_162 : decode cL_isSound 162 = .ok (.bipush 97, 2) := by decide +kernel
theorem dL_isSound_164 : decode cL_isSound 164 = .ok (.if_icmp .ne 7, 3) := by decide +kernel
theorem dL_isSound_167 : decode cL_isSound 167 = .ok (.iconst 1, 1) := by decide +kernel
theorem dL_isSound_168 : decode cL_isSound 168 = .ok (.goto 4, 3) := by decide +kernel
theorem dL_isSound_171 : decode cL_isSound 171 = .ok (.iconst 0, 1) := by decide +kernel
theorem dL_isSound_172 : decode cL_isSound 172 = .ok (.iadd, 1) := by decide +kernel
theorem dL_isSound_173 : decode cL_isSound 173 = .ok (.istore 4, 2) := by decide +kernel
theorem dL_isSound_175 : decode cL_isSound 175 = .ok (.iload 5, 2) := by decide +kernel
theorem dL_isSound_177 : decode cL_isSound 177 = .ok (.iload 8, 2) := by decide +kernel
theorem dL_isSound_179 : decode cL_isSound 179 = .ok (.bipush 99, 2) := by decide +kernel
theorem dL_isSound_181 : decode cL_isSound 181 = .ok (.if_icmp .ne 7, 3) := by decide +kernel
theorem dL_isSound_184 : decode cL_isSound 184 = .ok (.iconst 1, 1) := by decide +kernel
theorem dL_isSound_185 : decode cL_isSound 185 = .ok (.goto 4, 3) := by decide +kernel
theorem dL_isSound_188 : decode cL_isSound 188 = .ok (.iconst 0, 1) := by decide +kernel
theorem dL_isSound_189 : decode cL_isSound 189 = .ok (.iadd, 1) := by decide +kernel
theorem dL_isSound_190 : decode cL_isSound 190 = .ok (.istore 5, 2) := by decide +kernel
theorem dL_isSound_192 : decode cL_isSound 192 = .ok (.lload_n 1, 1) := by decide +kernel
theorem dL_isSound_193 : decode cL_isSound 193 = .ok (.aload_n 0, 1) := by decide +kernel
theorem dL_isSound_194 : decode cL_isSound 194 = .ok (.iload_n 3, 1) := by decide +kernel
theorem dL_isSound_195 : decode cL_isSound 195 = .ok (.iload 7, 2) := by decide +kernel
theorem dL_isSound_197 : decode cL_isSound 197 = .ok (.iconst 2, 1) := by decide +kernel
theorem dL_isSound_198 : decode cL_isSound 198 = .ok (.invokestatic 155, 3) := by decide +kernel
theorem dL_isSound_201 : decode cL_isSound 201 = .ok (.i2l, 1) := by decide +kernel
theorem dL_isSound_202 : decode cL_isSound 202 = .ok (.ladd, 1) := by decide +kernel
theorem dL_isSound_203 : decode cL_isSound 203 = .ok (.lstore_n 1, 1) := by decide +kernel
theorem dL_isSound_204 : decode cL_isSound 204 = .ok (.iinc 7 1, 3) := by decide +kernel
theorem dL_isSound_207 : decode cL_isSound 207 = .ok (.goto (-173), 3) := by decide +kernel
theorem dL_isSound_210 : decode cL_isSound 210 = .ok (.aload_n 0, 1) := by decide +kernel
theorem dL_isSound_211 : decode cL_isSound 211 = .ok (.iload_n 3, 1) := by decide +kernel
theorem dL_isSound_212 : decode cL_isSound 212 = .ok (.iconst 0, 1) := by decide +kernel
theorem dL_isSound_213 : decode cL_isSound 213 = .ok (.invokestatic 149, 3) := by decide +kernel
theorem dL_isSound_216 : decode cL_isSound 216 = .ok (.iload 4, 2) := by decide +kernel
theorem dL_isSound_218 : decode cL_isSound 218 = .ok (.if_icmp .ne 65, 3) := by decide +kernel
theorem dL_isSound_221 : decode cL_isSound 221 = .ok (.aload_n 0, 1) := by decide +kernel
theorem dL_isSound_222 : decode cL_isSound 222 = .ok (.iload_n 3, 1) := by decide +kernel
theorem dL_isSound_223 : decode cL_isSound 223 = .ok (.invokestatic 161, 3) := by decide +kernel
theorem dL_isSound_226 : decode cL_isSound 226 = .ok (.iload 5, 2) := by decide +kernel
theorem dL_isSound_228 : decode cL_isSound 228 = .ok (.i2f, 1) := by decide +kernel
theorem dL_isSound_229 : decode cL_isSound 229 = .ok (.iload 6, 2) := by decide +kernel
theorem dL_isSound_231 : decode cL_isSound 231 = .ok (.i2f, 1) := by decide +kernel
theorem dL_isSound_232 : decode cL_isSound 232 = .ok (.fdiv, 1) := by decide +kernel
theorem dL_isSound_233 : decode cL_isSound 233 = .ok (.fcmp .l, 1) := by decide +kernel
theorem dL_isSound_234 : decode cL_isSound 234 = .ok (.ifCond .ne 49, 3) := by decide +kernel
theorem dL_isSound_237 : decode cL_isSound 237 = .ok (.aload_n 0, 1) := by decide +kernel
theorem dL_isSound_238 : decode cL_isSound 238 = .ok (.iload_n 3, 1) := by decide +kernel
theorem dL_isSound_239 : decode cL_isSound 239 = .ok (.iconst 2, 1) := by decide +kernel
theorem dL_isSound_240 : decode cL_isSound 240 = .ok (.invokestatic 149, 3) := by decide +kernel
theorem dL_isSound_243 : decode cL_isSound 243 = .ok (.ifCond .lt 40, 3) := by decide +kernel
theorem dL_isSound_246 : decode cL_isSound 246 = .ok (.aload_n 0, 1) := by decide +kernel
theorem dL_isSound_247 : decode cL_isSound 247 = .ok (.iload_n 3, 1) := by decide +kernel
theorem dL_isSound_248 : decode cL_isSound 248 = .ok (.iconst 2, 1) := by decide +kernel
theorem dL_isSound_249 : decode cL_isSound 249 = .ok (.invokestatic 149, 3) := by decide +kernel
theorem dL_isSound_252 : decode cL_isSound 252 = .ok (.bipush 20, 2) := by decide +kernel
theorem dL_isSound_254 : decode cL_isSound 254 = .ok (.if_icmp .gt 29, 3) := by decide +kernel
theorem dL_isSound_257 : decode cL_isSound 257 = .ok (.aload_n 0, 1) := by decide +kernel
theorem dL_isSound_258 : decode cL_isSound 258 = .ok (.iload_n 3, 1) := by decide +kernel
theorem dL_isSound_259 : decode cL_isSound 259 = .ok (.bipush 6, 2) := by decide +kernel
theorem dL_isSound_261 : decode cL_isSound 261 = .ok (.invokestatic 149, 3) := by decide +kernel
theorem dL_isSound_264 : decode cL_isSound 264 = .ok (.aload_n 0, 1) := by decide +kernel
theorem dL_isSound_265 : decode cL_isSound 265 = .ok (.iload_n 3, 1) := by decide +kernel
theorem dL_isSound_266 : decode cL_isSound 266 = .ok (.iconst 3, 1) := by decide +kernel
theorem dL_isSound_267 : decode cL_isSound 267 = .ok (.invokestatic 149, 3) := by decide +kernel
theorem dL_isSound_270 : decode cL_isSound 270 = .ok (.if_icmp .le 13, 3) := by decide +kernel
theorem dL_isSound_273 : decode cL_isSound 273 = .ok (.aload_n 0, 1) := by decide +kernel
theorem dL_isSound_274 : decode cL_isSound 274 = .ok (.iload_n 3, 1) := by decide +kernel
theorem dL_isSound_275 : decode cL_isSound 275 = .ok (.bipush 7, 2) := by decide +kernel
theorem dL_isSound_277 : decode cL_isSound 277 = .ok (.invokestatic 149, 3) := by decide +kernel
theorem dL_isSound_280 : decode cL_isSound 280 = .ok (.ifCond .ne 5, 3) := by decide +kernel
theorem dL_isSound_283 : decode cL_isSound 283 = .ok (.iconst 0, 1) := by decide +kernel
theorem dL_isSound_284 : decode cL_isSound 284 = .ok (.ireturn, 1) := by decide +kernel
theorem dL_isSound_285 : decode cL_isSound 285 = .ok (.iinc 3 1, 3) := by decide +kernel
theorem dL_isSound_288 : decode cL_isSound 288 = .ok (.goto (-284), 3) := by decide +kernel
theorem dL_isSound_291 : decode cL_isSound 291 = .ok (.lload_n 1, 1) := by decide +kernel
theorem dL_isSound_292 : decode cL_isSound 292 = .ok (.aload_n 0, 1) := by decide +kernel
theorem dL_isSound_293 : decode cL_isSound 293 = .ok (.invokevirtual 143, 3) := by decide +kernel
theorem dL_isSound_296 : decode cL_isSound 296 = .ok (.lcmp, 1) := by decide +kernel
theorem dL_isSound_297 : decode cL_isSound 297 = .ok (.ifCond .ne 7, 3) := by decide +kernel
theorem dL_isSound_300 : decode cL_isSound 300 = .ok (.iconst 1, 1) := by decide +kernel
theorem dL_isSound_301 : decode cL_isSound 301 = .ok (.goto 4, 3) := by decide +kernel
theorem dL_isSound_304 : decode cL_isSound 304 = .ok (.iconst 0, 1) := by decide +kernel
theorem dL_isSound_305 : decode cL_isSound 305 = .ok (.ireturn, 1) := by decide +kernel
theorem dL_law_0 : decode cL_law 0 = .ok (.new 8, 3) := by decide +kernel
theorem dL_law_3 : decode cL_law 3 = .ok (.dup, 1) := by decide +kernel
theorem dL_law_4 : decode cL_law 4 = .ok (.invokespecial 165, 3) := by decide +kernel
theorem dL_law_7 : decode cL_law 7 = .ok (.astore_n 1, 1) := by decide +kernel
theorem dL_law_8 : decode cL_law 8 = .ok (.aload_n 0, 1) := by decide +kernel
theorem dL_law_9 : decode cL_law 9 = .ok (.iconst 0, 1) := by decide +kernel
theorem dL_law_10 : decode cL_law 10 = .ok (.invokestatic 166, 3) := by decide +kernel
theorem dL_law_13 : decode cL_law 13 = .ok (.bipush 58, 2) := by decide +kernel
theorem dL_law_15 : decode cL_law 15 = .ok (.invokestatic 170, 3) := by decide +kernel
theorem dL_law_18 : decode cL_law 18 = .ok (.istore_n 2, 1) := by decide +kernel
theorem dL_law_19 : decode cL_law 19 = .ok (.iconst 0, 1) := by decide +kernel
theorem dL_law_20 : decode cL_law 20 = .ok (.istore_n 3, 1) := by decide +kernel
theorem dL_law_21 : decode cL_law 21 = .ok (.iload_n 3, 1) := by decide +kernel
theorem dL_law_22 : decode cL_law 22 = .ok (.iload_n 2, 1) := by decide +kernel
theorem dL_law_23 : decode cL_law 23 = .ok (.if_icmp .ge 760, 3) := by decide +kernel
theorem dL_law_26 : decode cL_law 26 = .ok (.aload_n 0, 1) := by decide +kernel
theorem dL_law_27 : decode cL_law 27 = .ok (.iconst 1, 1) := by decide +kernel
theorem dL_law_28 : decode cL_law 28 = .ok (.iload_n 3, 1) := by decide +kernel
theorem dL_law_29 : decode cL_law 29 = .ok (.iadd, 1) := by decide +kernel
theorem dL_law_30 : decode cL_law 30 = .ok (.invokestatic 166, 3) := by decide +kernel
theorem dL_law_33 : decode cL_law 33 = .ok (.ldc 173, 2) := by decide +kernel
theorem dL_law_35 : decode cL_law 35 = .ok (.invokestatic 170, 3) := by decide +kernel
theorem dL_law_38 : decode cL_law 38 = .ok (.istore 4, 2) := by decide +kernel
theorem dL_law_40 : decode cL_law 40 = .ok (.iload 4, 2) := by decide +kernel
theorem dL_law_42 : decode cL_law 42 = .ok (.bipush 24, 2) := by decide +kernel
theorem dL_law_44 : decode cL_law 44 = .ok (.idiv, 1) := by decide +kernel
theorem dL_law_45 : decode cL_law 45 = .ok (.istore 5, 2) := by decide +kernel
theorem dL_law_47 : decode cL_law 47 = .ok (.iconst 1, 1) := by decide +kernel
theorem dL_law_48 : decode cL_law 48 = .ok (.aload_n 1, 1) := by decide +kernel
theorem dL_law_49 : decode cL_law 49 = .ok (.invokestatic 174, 3) := by decide +kernel
theorem dL_law_52 : decode cL_law 52 = .ok (.invokestatic 178, 3) := by decide +kernel
theorem dL_law_55 : decode cL_law 55 = .ok (.istore 6, 2) := by decide +kernel
theorem dL_law_57 : decode cL_law 57 = .ok (.iconst 1, 1) := by decide +kernel
theorem dL_law_58 : decode cL_law 58 = .ok (.aload_n 1, 1) := by decide +kernel
theorem dL_law_59 : decode cL_law 59 = .ok (.invokevirtual 138, 3) := by decide +kernel
theorem dL_law_62 : decode cL_law 62 = .ok (.invokestatic 178, 3) := by decide +kernel
theorem dL_law_65 : decode cL_law 65 = .ok (.istore 7, 2) := by decide +kernel
theorem dL_law_67 : decode cL_law 67 = .ok (.iload 5, 2) := by decide +kernel
theorem dL_law_69 : decode cL_law 69 = .ok (.iload 7, 2) := by decide +kernel
theorem dL_law_71 : decode cL_law 71 = .ok (.irem, 1) := by decide +kernel
theorem dL_law_72 : decode cL_law 72 = .ok (.istore 8, 2) := by decide +kernel
theorem dL_law_74 : decode cL_law 74 = .ok (.iload_n 3, 1) := by decide +kernel
theorem dL_law_75 : decode cL_law 75 = .ok (.iconst 2, 1) := by decide +kernel
theorem dL_law_76 : decode cL_law 76 = .ok (.irem, 1) := by decide +kernel
theorem dL_law_77 : decode cL_law 77 = .ok (.ifCond .ne 7, 3) := by decide +kernel
theorem dL_law_80 : decode cL_law 80 = .ok (.iconst 1, 1) := by decide +kernel
theorem dL_law_81 : decode cL_law 81 = .ok (.goto 4, 3) := by decide +kernel
theorem dL_law_84 : decode cL_law 84 = .ok (.iconst 0, 1) := by decide +kernel
theorem dL_law_85 : decode cL_law 85 = .ok (.istore 9, 2) := by decide +kernel
theorem dL_law_87 : decode cL_law 87 = .ok (.iload 9, 2) := by decide +kernel
theorem dL_law_89 : decode cL_law 89 = .ok (.ifCond .eq 10, 3) := by decide +kernel
theorem dL_law_92 : decode cL_law 92 = .ok (.aload_n 1, 1) := by decide +kernel
theorem dL_law_93 : decode cL_law 93 = .ok (.invokestatic 183, 3) := by decide +kernel
theorem dL_law_96 : decode cL_law 96 = .ok (.goto 4, 3) := by decide +kernel
theorem dL_law_99 : decode cL_law 99 = .ok (.lconst 0, 1) := by decide +kernel
theorem dL_law_100 : decode cL_law 100 = .ok (.lstore 10, 2) := by decide +kernel
theorem dL_law_102 : decode cL_law 102 = .ok (.iconst 2, 1) := by decide +kernel
theorem dL_law_103 : decode cL_law 103 = .ok (.newarray .int, 2) := by decide +kernel
theorem dL_law_105 : decode cL_law 105 = .ok (.dup, 1) := by decide +kernel
theorem dL_law_106 : decode cL_law 106 = .ok (.iconst 0, 1) := by decide +kernel
theorem dL_law_107 : decode cL_law 107 = .ok (.iload 5, 2) := by decide +kernel
theorem dL_law_109 : decode cL_law 109 = .ok (.bipush 64, 2) := by decide +kernel
theorem dL_law_111 : decode cL_law 111 = .ok (.idiv, 1) := by decide +kernel
theorem dL_law_112 : decode cL_law 112 = .ok (.iconst 4, 1) := by decide +kernel
theorem dL_law_113 : decode cL_law 113 = .ok (.irem, 1) := by decide +kernel
theorem dL_law_114 : decode cL_law 114 = .ok (.iastore, 1) := by decide +kernel
theorem dL_law_115 : decode cL_law 115 = .ok (.dup, 1) := by decide +kernel
theorem dL_law_116 : decode cL_law 116 = .ok (.iconst 1, 1) := by decide +kernel
theorem dL_law_117 : decode cL_law 117 = .ok (.iload 5, 2) := by decide +kernel
theorem dL_law_119 : decode cL_law 119 = .ok (.sipush 256, 3) := by decide +kernel
theorem dL_law_122 : decode cL_law 122 = .ok (.idiv, 1) := by decide +kernel
theorem dL_law_123 : decode cL_law 123 = .ok (.iconst 5, 1) := by decide +kernel
theorem dL_law_124 : decode cL_law 124 = .ok (.irem, 1) := by decide +kernel
theorem dL_law_125 : decode cL_law 125 = .ok (.iconst 2, 1) := by decide +kernel
theorem dL_law_126 : decode cL_law 126 = .ok (.isub, 1) := by decide +kernel
theorem dL_law_127 : decode cL_law 127 = .ok (.iastore, 1) := by decide +kernel
theorem dL_law_128 : decode cL_law 128 = .ok (.astore 12, 2) := by decide +kernel
theorem dL_law_130 : decode cL_law 130 = .ok (.iconst 0, 1) := by decide +kernel
theorem dL_law_131 : decode cL_law 131 = .ok (.istore 13, 2) := by decide +kernel
theorem dL_law_133 : decode cL_law 133 = .ok (.iload_n 3, 1) := by decide +kernel
theorem dL_law_134 : decode cL_law 134 = .ok (.iconst 1, 1) := by decide +kernel
theorem dL_law_135 : decode cL_law 135 = .ok (.if_icmp .ge 7, 3) := by decide +kernel
theorem dL_law_138 : decode cL_law 138 = .ok (.iconst 0, 1) := by decide +kernel
theorem dL_law_139 : decode cL_law 139 = .ok (.goto 39, 3) := by decide +kernel
theorem dL_law_142 : decode cL_law 142 = .ok (.iload_n 3, 1) := by decide +kernel
theorem dL_law_143 : decode cL_law 143 = .ok (.bipush 6, 2) := by decide +kernel
theorem dL_law_145 : decode cL_law 145 = .ok (.if_icmp .ge 7, 3) := by decide +kernel
theorem dL_law_148 : decode cL_law 148 = .ok (.iconst 1, 1) := by decide +kernel
theorem dL_law_149 : decode cL_law 149 = .ok (.goto 29, 3) := by decide +kernel
theorem dL_law_152 : decode cL_law 152 = .ok (.iload_n 3, 1) := by decide +kernel
theorem dL_law_153 : decode cL_law 153 = .ok (.bipush 9, 2) := by decide +kernel
theorem dL_law_155 : decode cL_law 155 = .ok (.if_icmp .ge 7, 3) := by decide +kernel
theorem dL_law_158 : decode cL_law 158 = .ok (.iconst 3, 1) := by decide +kernel
theorem dL_law_159 : decode cL_law 159 = .ok (.goto 19, 3) := by decide +kernel
theorem dL_law_162 : decode cL_law 162 = .ok (.iload_n 3, 1) := by decide +kernel
theorem dL_law_163 : decode cL_law 163 = .ok (.bipush 10, 2) := by decide +kernel
theorem dL_law_165 : decode cL_law 165 = .ok (.if_icmp .ge 8, 3) := by decide +kernel
theorem dL_law_168 : decode cL_law 168 = .ok (.bipush 9, 2) := by decide +kernel
theorem dL_law_170 : decode cL_law 170 = .ok (.goto 8, 3) := by decide +kernel
theorem dL_law_173 : decode cL_law 173 = .ok (.iload 4, 2) := by decide +kernel
theorem dL_law_175 : decode cL_law 175 = .ok (.bipush 24, 2) := by decide +kernel
theorem dL_law_177 : decode cL_law 177 = .ok (.irem, 1) := by decide +kernel
theorem dL_law_178 : decode cL_law 178 = .ok (.istore 14, 2) := by decide +kernel
theorem dL_law_180 : decode cL_law 180 = .ok (.iload 14, 2) := by decide +kernel
theorem dL_law_182 : decode cL_law 182 = .ok (.iconst 1, 1) := by decide +kernel
theorem dL_law_183 : decode cL_law 183 = .ok (.if_icmp .ge 12, 3) := by decide +kernel
theorem dL_law_186 : decode cL_law 186 = .ok (.aload_n 1, 1) := by decide +kernel
theorem dL_law_187 : decode cL_law 187 = .ok (.invokestatic 187, 3) := by decide +kernel
theorem dL_law_190 : decode cL_law 190 = .ok (.istore 13, 2) := by decide +kernel
theorem dL_law_192 : decode cL_law 192 = .ok (.goto 544, 3) := by decide +kernel
theorem dL_law_195 : decode cL_law 195 = .ok (.iload 14, 2) := by decide +kernel
theorem dL_law_197 : decode cL_law 197 = .ok (.iconst 3, 1) := by decide +kernel
theorem dL_law_198 : decode cL_law 198 = .ok (.if_icmp .ge 46, 3) := by decide +kernel
theorem dL_law_201 : decode cL_law 201 = .ok (.aload_n 1, 1) := by decide +kernel
theorem dL_law_202 : decode cL_law 202 = .ok (.iload 5, 2) := by decide +kernel
theorem dL_law_204 : decode cL_law 204 = .ok (.iload 6, 2) := by decide +kernel
theorem dL_law_206 : decode cL_law 206 = .ok (.irem, 1) := by decide +kernel
theorem dL_law_207 : decode cL_law 207 = .ok (.ldc 190, 2) := by decide +kernel
theorem dL_law_209 : decode cL_law 209 = .ok (.iload 5, 2) := by decide +kernel
theorem dL_law_211 : decode cL_law 211 = .ok (.iconst 3, 1) := by decide +kernel
theorem dL_law_212 : decode cL_law 212 = .ok (.idiv, 1) := by decide +kernel
theorem dL_law_213 : decode cL_law 213 = .ok (.iconst 4, 1) := by decide +kernel
theorem dL_law_214 : decode cL_law 214 = .ok (.irem, 1) := by decide +kernel
theorem dL_law_215 : decode cL_law 215 = .ok (.invokevirtual 192, 3) := by decide +kernel
theorem dL_law_218 : decode cL_law 218 = .ok (.iload_n 3, 1) := by decide +kernel
theorem dL_law_219 : decode cL_law 219 = .ok (.iconst 3, 1) := by decide +kernel
theorem dL_law_220 : decode cL_law 220 = .ok (.if_icmp .ge 7, 3) := by decide +kernel
theorem dL_law_223 : decode cL_law 223 = .ok (.iconst (-1), 1) := by decide +kernel
theorem dL_law_224 : decode cL_law 224 = .ok (.goto 12, 3) := by decide +kernel
theorem dL_law_227 : decode cL_law 227 = .ok (.iload 5, 2) := by decide +kernel
theorem dL_law_229 : decode cL_law 229 = .ok (.bipush 12, 2) := by decide +kernel
theorem dL_law_231 : decode cL_law 231 = .ok (.idiv, 1) := by decide +kernel
theorem dL_law_232 : decode cL_law 232 = .ok (.iconst 4, 1) := by decide +kernel
theorem dL_law_233 : decode cL_law 233 = .ok (.irem, 1) := by decide +kernel
theorem dL_law_234 : decode cL_law 234 = .ok (.iconst 1, 1) := by decide +kernel
theorem dL_law_235 : decode cL_law 235 = .ok (.isub, 1) := by decide +kernel
theorem dL_law_236 : decode cL_law 236 = .ok (.invokestatic 198, 3) := by decide +kernel
theorem dL_law_239 : decode cL_law 239 = .ok (.istore 13, 2) := by decide +kernel
theorem dL_law_241 : decode cL_law 241 = .ok (.goto 495, 3) := by decide +kernel
theorem dL_law_244 : decode cL_law 244 = .ok (.iload 14, 2) := by decide +kernel
theorem dL_law_246 : decode cL_law 246 = .ok (.bipush 7, 2) := by decide +kernel
theorem dL_law_248 : decode cL_law 248 = .ok (.if_icmp .ge 53, 3) := by decide +kernel
theorem dL_law_251 : decode cL_law 251 = .ok (.aload_n 1, 1) := by decide +kernel
theorem dL_law_252 : decode cL_law 252 = .ok (.iload 5, 2) := by decide +kernel
theorem dL_law_254 : decode cL_law 254 = .ok (.iload 6, 2) := by decide +kernel
theorem dL_law_256 : decode cL_law 256 = .ok (.irem, 1) := by decide +kernel
theorem dL_law_257 : decode cL_law 257 = .ok (.iload 5, 2) := by decide +kernel
theorem dL_law_259 : decode cL_law 259 = .ok (.iconst 3, 1) := by decide +kernel
theorem dL_law_260 : decode cL_law 260 = .ok (.idiv, 1) := by decide +kernel
theorem dL_law_261 : decode cL_law 261 = .ok (.bipush 6, 2) := by decide +kernel
theorem dL_law_263 : decode cL_law 263 = .ok (.irem, 1) := by decide +kernel
theorem dL_law_264 : decode cL_law 264 = .ok (.iload 5, 2) := by decide +kernel
theorem dL_law_266 : decode cL_law 266 = .ok (.bipush 18, 2) := by decide +kernel
theorem dL_law_268 : decode cL_law 268 = .ok (.idiv, 1) := by decide +kernel
theorem dL_law_269 : decode cL_law 269 = .ok (.iconst 3, 1) := by decide +kernel
theorem dL_law_270 : decode cL_law 270 = .ok (.irem, 1) := by decide +kernel
theorem dL_law_271 : decode cL_law 271 = .ok (.ifCond .le 7, 3) := by decide +kernel
theorem dL_law_274 : decode cL_law 274 = .ok (.iconst 1, 1) := by decide +kernel
theorem dL_law_275 : decode cL_law 275 = .ok (.goto 4, 3) := by decide +kernel
theorem dL_law_278 : decode cL_law 278 = .ok (.iconst 0, 1) := by decide +kernel
theorem dL_law_279 : decode cL_law 279 = .ok (.ldc 202, 2) := by decide +kernel
theorem dL_law_281 : decode cL_law 281 = .ok (.iload 5, 2) := by decide +kernel
theorem dL_law_283 : decode cL_law 283 = .ok (.bipush 54, 2) := by decide +kernel
theorem dL_law_285 : decode cL_law 285 = .ok (.idiv, 1) := by decide +kernel
theorem dL_law_286 : decode cL_law 286 = .ok (.iconst 5, 1) := by decide +kernel
theorem dL_law_287 : decode cL_law 287 = .ok (.irem, 1) := by decide +kernel
theorem dL_law_288 : decode cL_law 288 = .ok (.invokevirtual 192, 3) := by decide +kernel
theorem dL_law_291 : decode cL_law 291 = .ok (.aload 12, 2) := by decide +kernel
theorem dL_law_293 : decode cL_law 293 = .ok (.invokestatic 204, 3) := by decide +kernel
theorem dL_law_296 : decode cL_law 296 = .ok (.istore 13, 2) := by decide +kernel
theorem dL_law_298 : decode cL_law 298 = .ok (.goto 438, 3) := by decide +kernel
theorem dL_law_301 : decode cL_law 301 = .ok (.iload 14, 2) := by decide +kernel
theorem dL_law_303 : decode cL_law 303 = .ok (.bipush 8, 2) := by decide +kernel
theorem dL_law_305 : decode cL_law 305 = .ok (.if_icmp .ge 56, 3) := by decide +kernel
theorem dL_law_308 : decode cL_law 308 = .ok (.aload_n 1, 1) := by decide +kernel
theorem dL_law_309 : decode cL_law 309 = .ok (.iload 5, 2) := by decide +kernel
theorem dL_law_311 : decode cL_law 311 = .ok (.iload 6, 2) := by decide +kernel
theorem dL_law_313 : decode cL_law 313 = .ok (.irem, 1) := by decide +kernel
theorem dL_law_314 : decode cL_law 314 = .ok (.iload 5, 2) := by decide +kernel
theorem dL_law_316 : decode cL_law 316 = .ok (.iconst 3, 1) := by decide +kernel
theorem dL_law_317 : decode cL_law 317 = .ok (.idiv, 1) := by decide +kernel
theorem dL_law_318 : decode cL_law 318 = .ok (.bipush 6, 2) := by decide +kernel
theorem dL_law_320 : decode cL_law 320 = .ok (.irem, 1) := by decide +kernel
theorem dL_law_321 : decode cL_law 321 = .ok (.iload 5, 2) := by decide +kernel
theorem dL_law_323 : decode cL_law 323 = .ok (.bipush 18, 2) := by decide +kernel
theorem dL_law_325 : decode cL_law 325 = .ok (.idiv, 1) := by decide +kernel
theorem dL_law_326 : decode cL_law 326 = .ok (.iconst 2, 1) := by decide +kernel
theorem dL_law_327 : decode cL_law 327 = .ok (.irem, 1) := by decide +kernel
theorem dL_law_328 : decode cL_law 328 = .ok (.ifCond .ne 8, 3) := by decide +kernel
theorem dL_law_331 : decode cL_law 331 = .ok (.bipush 116, 2) := by decide +kernel
theorem dL_law_333 : decode cL_law 333 = .ok (.goto 5, 3) := by decide +kernel
theorem dL_law_336 : decode cL_law 336 = .ok (.bipush 109, 2) := by decide +kernel
theorem dL_law_338 : decode cL_law 338 = .ok (.iload 5, 2) := by decide +kernel
theorem dL_law_340 : decode cL_law 340 = .ok (.bipush 36, 2) := by decide +kernel
theorem dL_law_342 : decode cL_law 342 = .ok (.idiv, 1) := by decide +kernel
theorem dL_law_343 : decode cL_law 343 = .ok (.iconst 2, 1) := by decide +kernel
theorem dL_law_344 : decode cL_law 344 = .ok (.irem, 1) := by decide +kernel
theorem dL_law_345 : decode cL_law 345 = .ok (.ifCond .ne 7, 3) := by decide +kernel
theorem dL_law_348 : decode cL_law 348 = .ok (.iconst 1, 1) := by decide +kernel
theorem dL_law_349 : decode cL_law 349 = .ok (.goto 4, 3) := by decide +kernel
theorem dL_law_352 : decode cL_law 352 = .ok (.iconst 0, 1) := by decide +kernel
theorem dL_law_353 : decode cL_law 353 = .ok (.invokestatic 208, 3) := by decide +kernel
theorem dL_law_356 : decode cL_law 356 = .ok (.istore 13, 2) := by decide +kernel
theorem dL_law_358 : decode cL_law 358 = .ok (.goto 378, 3) := by decide +kernel
theorem dL_law_361 : decode cL_law 361 = .ok (.iload 14, 2) := by decide +kernel
theorem dL_law_363 : decode cL_law 363 = .ok (.bipush 9, 2) := by decide +kernel
theorem dL_law_365 : decode cL_law 365 = .ok (.if_icmp .ge 32, 3) := by decide +kernel
theorem dL_law_368 : decode cL_law 368 = .ok (.aload_n 1, 1) := by decide +kernel
theorem dL_law_369 : decode cL_law 369 = .ok (.iload 5, 2) := by decide +kernel
theorem dL_law_371 : decode cL_law 371 = .ok (.iload 6, 2) := by decide +kernel
theorem dL_law_373 : decode cL_law 373 = .ok (.irem, 1) := by decide +kernel
theorem dL_law_374 : decode cL_law 374 = .ok (.iload 5, 2) := by decide +kernel
theorem dL_law_376 : decode cL_law 376 = .ok (.iconst 3, 1) := by decide +kernel
theorem dL_law_377 : decode cL_law 377 = .ok (.idiv, 1) := by decide +kernel
theorem dL_law_378 : decode cL_law 378 = .ok (.bipush 6, 2) := by decide +kernel
theorem dL_law_380 : decode cL_law 380 = .ok (.irem, 1) := by decide +kernel
theorem dL_law_381 : decode cL_law 381 = .ok (.iload 5, 2) := by decide +kernel
theorem dL_law_383 : decode cL_law 383 = .ok (.bipush 18, 2) := by decide +kernel
theorem dL_law_385 : decode cL_law 385 = .ok (.idiv, 1) := by decide +kernel
theorem dL_law_386 : decode cL_law 386 = .ok (.bipush 6, 2) := by decide +kernel
theorem dL_law_388 : decode cL_law 388 = .ok (.irem, 1) := by decide +kernel
theorem dL_law_389 : decode cL_law 389 = .ok (.invokestatic 212, 3) := by decide +kernel
theorem dL_law_392 : decode cL_law 392 = .ok (.istore 13, 2) := by decide +kernel
theorem dL_law_394 : decode cL_law 394 = .ok (.goto 342, 3) := by decide +kernel
theorem dL_law_397 : decode cL_law 397 = .ok (.iload 14, 2) := by decide +kernel
theorem dL_law_399 : decode cL_law 399 = .ok (.bipush 10, 2) := by decide +kernel
theorem dL_law_401 : decode cL_law 401 = .ok (.if_icmp .ge 17, 3) := by decide +kernel
theorem dL_law_404 : decode cL_law 404 = .ok (.aload_n 1, 1) := by decide +kernel
theorem dL_law_405 : decode cL_law 405 = .ok (.iload 5, 2) := by decide +kernel
theorem dL_law_407 : decode cL_law 407 = .ok (.iload 6, 2) := by decide +kernel
theorem dL_law_409 : decode cL_law 409 = .ok (.irem, 1) := by decide +kernel
theorem dL_law_410 : decode cL_law 410 = .ok (.invokestatic 215, 3) := by decide +kernel
theorem dL_law_413 : decode cL_law 413 = .ok (.istore 13, 2) := by decide +kernel
theorem dL_law_415 : decode cL_law 415 = .ok (.goto 321, 3) := by decide +kernel
theorem dL_law_418 : decode cL_law 418 = .ok (.iload 14, 2) := by decide +kernel
theorem dL_law_420 : decode cL_law 420 = .ok (.bipush 14, 2) := by decide +kernel
theorem dL_law_422 : decode cL_law 422 = .ok (.if_icmp .ge 108, 3) := by decide +kernel
theorem dL_law_425 : decode cL_law 425 = .ok (.aload_n 1, 1) := by decide +kernel
theorem dL_law_426 : decode cL_law 426 = .ok (.iload 8, 2) := by decide +kernel
theorem dL_law_428 : decode cL_law 428 = .ok (.bipush 6, 2) := by decide +kernel
theorem dL_law_430 : decode cL_law 430 = .ok (.invokestatic 149, 3) := by decide +kernel
theorem dL_law_433 : decode cL_law 433 = .ok (.istore 15, 2) := by decide +kernel
theorem dL_law_435 : decode cL_law 435 = .ok (.aload_n 1, 1) := by decide +kernel
theorem dL_law_436 : decode cL_law 436 = .ok (.iload 8, 2) := by decide +kernel
theorem dL_law_438 : decode cL_law 438 = .ok (.bipush 100, 2) := by decide +kernel
theorem dL_law_440 : decode cL_law 440 = .ok (.iload 5, 2) := by decide +kernel
theorem dL_law_442 : decode cL_law 442 = .ok (.iconst 4, 1) := by decide +kernel
theorem dL_law_443 : decode cL_law 443 = .ok (.idiv, 1) := by decide +kernel
theorem dL_law_444 : decode cL_law 444 = .ok (.iconst 4, 1) := by decide +kernel
theorem dL_law_445 : decode cL_law 445 = .ok (.irem, 1) := by decide +kernel
theorem dL_law_446 : decode cL_law 446 = .ok (.iload 5, 2) := by decide +kernel
theorem dL_law_448 : decode cL_law 448 = .ok (.bipush 16, 2) := by decide +kernel
theorem dL_law_450 : decode cL_law 450 = .ok (.idiv, 1) := by decide +kernel
theorem dL_law_451 : decode cL_law 451 = .ok (.bipush 7, 2) := by decide +kernel
theorem dL_law_453 : decode cL_law 453 = .ok (.irem, 1) := by decide +kernel
theorem dL_law_454 : decode cL_law 454 = .ok (.iconst 3, 1) := by decide +kernel
theorem dL_law_455 : decode cL_law 455 = .ok (.isub, 1) := by decide +kernel
theorem dL_law_456 : decode cL_law 456 = .ok (.invokestatic 218, 3) := by decide +kernel
theorem dL_law_459 : decode cL_law 459 = .ok (.istore 13, 2) := by decide +kernel
theorem dL_law_461 : decode cL_law 461 = .ok (.iload 13, 2) := by decide +kernel
theorem dL_law_463 : decode cL_law 463 = .ok (.sipush (-1000), 3) := by decide +kernel
theorem dL_law_466 : decode cL_law 466 = .ok (.if_icmp .le 45, 3) := by decide +kernel
theorem dL_law_469 : decode cL_law 469 = .ok (.aload_n 1, 1) := by decide +kernel
theorem dL_law_470 : decode cL_law 470 = .ok (.iload 8, 2) := by decide +kernel
theorem dL_law_472 : decode cL_law 472 = .ok (.iload 5, 2) := by decide +kernel
theorem dL_law_474 : decode cL_law 474 = .ok (.iconst 4, 1) := by decide +kernel
theorem dL_law_475 : decode cL_law 475 = .ok (.idiv, 1) := by decide +kernel
theorem dL_law_476 : decode cL_law 476 = .ok (.iconst 4, 1) := by decide +kernel
theorem dL_law_477 : decode cL_law 477 = .ok (.irem, 1) := by decide +kernel
theorem dL_law_478 : decode cL_law 478 = .ok (.invokestatic 153, 3) := by decide +kernel
theorem dL_law_481 : decode cL_law 481 = .ok (.iload 5, 2) := by decide +kernel
theorem dL_law_483 : decode cL_law 483 = .ok (.bipush 16, 2) := by decide +kernel
theorem dL_law_485 : decode cL_law 485 = .ok (.idiv, 1) := by decide +kernel
theorem dL_law_486 : decode cL_law 486 = .ok (.bipush 7, 2) := by decide +kernel
theorem dL_law_488 : decode cL_law 488 = .ok (.irem, 1) := by decide +kernel
theorem dL_law_489 : decode cL_law 489 = .ok (.iconst 3, 1) := by decide +kernel
theorem dL_law_490 : decode cL_law 490 = .ok (.isub, 1) := by decide +kernel
theorem dL_law_491 : decode cL_law 491 = .ok (.if_icmp .ne 18, 3) := by decide +kernel
theorem dL_law_494 : decode cL_law 494 = .ok (.aload_n 1, 1) := by decide +kernel
theorem dL_law_495 : decode cL_law 495 = .ok (.iload 8, 2) := by decide +kernel
theorem dL_law_497 : decode cL_law 497 = .ok (.bipush 6, 2) := by decide +kernel
theorem dL_law_499 : decode cL_law 499 = .ok (.invokestatic 149, 3) := by decide +kernel
theorem dL_law_502 : decode cL_law 502 = .ok (.iload 15, 2) := by decide +kernel
theorem dL_law_504 : decode cL_law 504 = .ok (.iconst 1, 1) := by decide +kernel
theorem dL_law_505 : decode cL_law 505 = .ok (.iadd, 1) := by decide +kernel
theorem dL_law_506 : decode cL_law 506 = .ok (.if_icmp .eq 5, 3) := by decide +kernel
theorem dL_law_509 : decode cL_law 509 = .ok (.iconst 0, 1) := by decide +kernel
theorem dL_law_510 : decode cL_law 510 = .ok (.ireturn, 1) := by decide +kernel
theorem dL_law_511 : decode cL_law 511 = .ok (.iload 13, 2) := by decide +kernel
theorem dL_law_513 : decode cL_law 513 = .ok (.sipush (-1000), 3) := by decide +kernel
theorem dL_law_516 : decode cL_law 516 = .ok (.if_icmp .le 7, 3) := by decide +kernel
theorem dL_law_519 : decode cL_law 519 = .ok (.iconst 0, 1) := by decide +kernel
theorem dL_law_520 : decode cL_law 520 = .ok (.goto 5, 3) := by decide +kernel
theorem dL_law_523 : decode cL_law 523 = .ok (.iload 13, 2) := by decide +kernel
theorem dL_law_525 : decode cL_law 525 = .ok (.istore 13, 2) := by decide +kernel
theorem dL_law_527 : decode cL_law 527 = .ok (.goto 209, 3) := by decide +kernel
theorem dL_law_530 : decode cL_law 530 = .ok (.iload 14, 2) := by decide +kernel
theorem dL_law_532 : decode cL_law 532 = .ok (.bipush 17, 2) := by decide +kernel
theorem dL_law_534 : decode cL_law 534 = .ok (.if_icmp .ge 23, 3) := by decide +kernel
theorem dL_law_537 : decode cL_law 537 = .ok (.aload_n 1, 1) := by decide +kernel
theorem dL_law_538 : decode cL_law 538 = .ok (.iload 8, 2) := by decide +kernel
theorem dL_law_540 : decode cL_law 540 = .ok (.bipush 101, 2) := by decide +kernel
theorem dL_law_542 : decode cL_law 542 = .ok (.iload 5, 2) := by decide +kernel
theorem dL_law_544 : decode cL_law 544 = .ok (.iconst 4, 1) := by decide +kernel
theorem dL_law_545 : decode cL_law 545 = .ok (.idiv, 1) := by decide +kernel
theorem dL_law_546 : decode cL_law 546 = .ok (.iconst 5, 1) := by decide +kernel
theorem dL_law_547 : decode cL_law 547 = .ok (.irem, 1) := by decide +kernel
theorem dL_law_548 : decode cL_law 548 = .ok (.iconst 0, 1) := by decide +kernel
theorem dL_law_549 : decode cL_law 549 = .ok (.invokestatic 218, 3) := by decide +kernel
theorem dL_law_552 : decode cL_law 552 = .ok (.istore 13, 2) := by decide +kernel
theorem dL_law_554 : decode cL_law 554 = .ok (.goto 182, 3) := by decide +kernel
theorem dL_law_557 : decode cL_law 557 = .ok (.iload 14, 2) := by decide +kernel
theorem dL_law_559 : decode cL_law 559 = .ok (.bipush 20, 2) := by decide +kernel
theorem dL_law_561 : decode cL_law 561 = .ok (.if_icmp .ge 60, 3) := by decide +kernel
theorem dL_law_564 : decode cL_law 564 = .ok (.iload 5, 2) := by decide +kernel
theorem dL_law_566 : decode cL_law 566 = .ok (.iconst 4, 1) := by decide +kernel
theorem dL_law_567 : decode cL_law 567 = .ok (.idiv, 1) := by decide +kernel
theorem dL_law_568 : decode cL_law 568 = .ok (.bipush 8, 2) := by decide +kernel
theorem dL_law_570 : decode cL_law 570 = .ok (.irem, 1) := by decide +kernel
theorem dL_law_571 : decode cL_law 571 = .ok (.istore 15, 2) := by decide +kernel
theorem dL_law_573 : decode cL_law 573 = .ok (.aload_n 1, 1) := by decide +kernel
theorem dL_law_574 : decode cL_law 574 = .ok (.iload 8, 2) := by decide +kernel
theorem dL_law_576 : decode cL_law 576 = .ok (.iload 15, 2) := by decide +kernel
theorem dL_law_578 : decode cL_law 578 = .ok (.invokestatic 222, 3) := by decide +kernel
theorem dL_law_581 : decode cL_law 581 = .ok (.istore 13, 2) := by decide +kernel
theorem dL_law_583 : decode cL_law 583 = .ok (.iload 13, 2) := by decide +kernel
theorem dL_law_585 : decode cL_law 585 = .ok (.ifCond .lt 33, 3) := by decide +kernel
theorem dL_law_588 : decode cL_law 588 = .ok (.aload_n 1, 1) := by decide +kernel
theorem dL_law_589 : decode cL_law 589 = .ok (.iload 8, 2) := by decide +kernel
theorem dL_law_591 : decode cL_law 591 = .ok (.iload 15, 2) := by decide +kernel
theorem dL_law_593 : decode cL_law 593 = .ok (.iconst 0, 1) := by decide +kernel
theorem dL_law_594 : decode cL_law 594 = .ok (.invokestatic 155, 3) := by decide +kernel
theorem dL_law_597 : decode cL_law 597 = .ok (.bipush 99, 2) := by decide +kernel
theorem dL_law_599 : decode cL_law 599 = .ok (.if_icmp .ne 17, 3) := by decide +kernel
theorem dL_law_602 : decode cL_law 602 = .ok (.aload_n 1, 1) := by decide +kernel
theorem dL_law_603 : decode cL_law 603 = .ok (.iload 8, 2) := by decide +kernel
theorem dL_law_605 : decode cL_law 605 = .ok (.iload 15, 2) := by decide +kernel
theorem dL_law_607 : decode cL_law 607 = .ok (.invokestatic 222, 3) := by decide +kernel
theorem dL_law_610 : decode cL_law 610 = .ok (.sipush (-1003), 3) := by decide +kernel
theorem dL_law_613 : decode cL_law 613 = .ok (.if_icmp .eq 5, 3) := by decide +kernel
theorem dL_law_616 : decode cL_law 616 = .ok (.iconst 0, 1) := by decide +kernel
theorem dL_law_617 : decode cL_law 617 = .ok (.ireturn, 1) := by decide +kernel
theorem dL_law_618 : decode cL_law 618 = .ok (.goto 118, 3) := by decide +kernel
theorem dL_law_621 : decode cL_law 621 = .ok (.iload 14, 2) := by decide +kernel
theorem dL_law_623 : decode cL_law 623 = .ok (.bipush 21, 2) := by decide +kernel
theorem dL_law_625 : decode cL_law 625 = .ok (.if_icmp .ge 28, 3) := by decide +kernel
theorem dL_law_628 : decode cL_law 628 = .ok (.aload_n 1, 1) := by decide +kernel
theorem dL_law_629 : decode cL_law 629 = .ok (.iload 8, 2) := by decide +kernel
theorem dL_law_631 : decode cL_law 631 = .ok (.iload 5, 2) := by decide +kernel
theorem dL_law_633 : decode cL_law 633 = .ok (.iconst 4, 1) := by decide +kernel
theorem dL_law_634 : decode cL_law 634 = .ok (.idiv, 1) := by decide +kernel
theorem dL_law_635 : decode cL_law 635 = .ok (.iconst 2, 1) := by decide +kernel
theorem dL_law_636 : decode cL_law 636 = .ok (.irem, 1) := by decide +kernel
theorem dL_law_637 : decode cL_law 637 = .ok (.ifCond .ne 7, 3) := by decide +kernel
theorem dL_law_640 : decode cL_law 640 = .ok (.iconst 1, 1) := by decide +kernel
theorem dL_law_641 : decode cL_law 641 = .ok (.goto 4, 3) := by decide +kernel
theorem dL_law_644 : decode cL_law 644 = .ok (.iconst 0, 1) := by decide +kernel
theorem dL_law_645 : decode cL_law 645 = .ok (.invokestatic 224, 3) := by decide +kernel
theorem dL_law_648 : decode cL_law 648 = .ok (.istore 13, 2) := by decide +kernel
theorem dL_law_650 : decode cL_law 650 = .ok (.goto 86, 3) := by decide +kernel
theorem dL_law_653 : decode cL_law 653 = .ok (.iload 14, 2) := by decide +kernel
theorem dL_law_655 : decode cL_law 655 = .ok (.bipush 22, 2) := by decide +kernel
theorem dL_law_657 : decode cL_law 657 = .ok (.if_icmp .ge 24, 3) := by decide +kernel
theorem dL_law_660 : decode cL_law 660 = .ok (.aload_n 1, 1) := by decide +kernel
theorem dL_law_661 : decode cL_law 661 = .ok (.iload 8, 2) := by decide +kernel
theorem dL_law_663 : decode cL_law 663 = .ok (.bipush 109, 2) := by decide +kernel
theorem dL_law_665 : decode cL_law 665 = .ok (.iload 5, 2) := by decide +kernel
theorem dL_law_667 : decode cL_law 667 = .ok (.iconst 4, 1) := by decide +kernel
theorem dL_law_668 : decode cL_law 668 = .ok (.idiv, 1) := by decide +kernel
theorem dL_law_669 : decode cL_law 669 = .ok (.iload 6, 2) := by decide +kernel
theorem dL_law_671 : decode cL_law 671 = .ok (.irem, 1) := by decide +kernel
theorem dL_law_672 : decode cL_law 672 = .ok (.iconst 0, 1) := by decide +kernel
theorem dL_law_673 : decode cL_law 673 = .ok (.invokestatic 218, 3) := by decide +kernel
theorem dL_law_676 : decode cL_law 676 = .ok (.istore 13, 2) := by decide +kernel
theorem dL_law_678 : decode cL_law 678 = .ok (.goto 58, 3) := by decide +kernel
theorem dL_law_681 : decode cL_law 681 = .ok (.aload_n 1, 1) := by decide +kernel
theorem dL_law_682 : decode cL_law 682 = .ok (.iload 8, 2) := by decide +kernel
theorem dL_law_684 : decode cL_law 684 = .ok (.iconst 3, 1) := by decide +kernel
theorem dL_law_685 : decode cL_law 685 = .ok (.invokestatic 149, 3) := by decide +kernel
theorem dL_law_688 : decode cL_law 688 = .ok (.istore 15, 2) := by decide +kernel
theorem dL_law_690 : decode cL_law 690 = .ok (.iload 5, 2) := by decide +kernel
theorem dL_law_692 : decode cL_law 692 = .ok (.iconst 4, 1) := by decide +kernel
theorem dL_law_693 : decode cL_law 693 = .ok (.idiv, 1) := by decide +kernel
theorem dL_law_694 : decode cL_law 694 = .ok (.bipush 6, 2) := by decide +kernel
theorem dL_law_696 : decode cL_law 696 = .ok (.irem, 1) := by decide +kernel
theorem dL_law_697 : decode cL_law 697 = .ok (.istore 16, 2) := by decide +kernel
theorem dL_law_699 : decode cL_law 699 = .ok (.aload_n 1, 1) := by decide +kernel
theorem dL_law_700 : decode cL_law 700 = .ok (.iload 16, 2) := by decide +kernel
theorem dL_law_702 : decode cL_law 702 = .ok (.invokestatic 227, 3) := by decide +kernel
theorem dL_law_705 : decode cL_law 705 = .ok (.istore 13, 2) := by decide +kernel
theorem dL_law_707 : decode cL_law 707 = .ok (.iload 13, 2) := by decide +kernel
theorem dL_law_709 : decode cL_law 709 = .ok (.ifCond .lt 27, 3) := by decide +kernel
theorem dL_law_712 : decode cL_law 712 = .ok (.aload_n 1, 1) := by decide +kernel
theorem dL_law_713 : decode cL_law 713 = .ok (.invokevirtual 138, 3) := by decide +kernel
theorem dL_law_716 : decode cL_law 716 = .ok (.ifCond .le 20, 3) := by decide +kernel
theorem dL_law_719 : decode cL_law 719 = .ok (.aload_n 1, 1) := by decide +kernel
theorem dL_law_720 : decode cL_law 720 = .ok (.iload 8, 2) := by decide +kernel
theorem dL_law_722 : decode cL_law 722 = .ok (.iconst 3, 1) := by decide +kernel
theorem dL_law_723 : decode cL_law 723 = .ok (.invokestatic 149, 3) := by decide +kernel
theorem dL_law_726 : decode cL_law 726 = .ok (.iload 15, 2) := by decide +kernel
theorem dL_law_728 : decode cL_law 728 = .ok (.iload 16, 2) := by decide +kernel
theorem dL_law_730 : decode cL_law 730 = .ok (.iadd, 1) := by decide +kernel
theorem dL_law_731 : decode cL_law 731 = .ok (.if_icmp .eq 5, 3) := by decide +kernel
theorem dL_law_734 : decode cL_law 734 = .ok (.iconst 0, 1) := by decide +kernel
theorem dL_law_735 : decode cL_law 735 = .ok (.ireturn, 1) := by decide +kernel
theorem dL_law_736 : decode cL_law 736 = .ok (.iload 13, 2) := by decide +kernel
theorem dL_law_738 : decode cL_law 738 = .ok (.sipush (-1000), 3) := by decide +kernel
theorem dL_law_741 : decode cL_law 741 = .ok (.if_icmp .ge 18, 3) := by decide +kernel
theorem dL_law_744 : decode cL_law 744 = .ok (.iload 9, 2) := by decide +kernel
theorem dL_law_746 : decode cL_law 746 = .ok (.ifCond .eq 13, 3) := by decide +kernel
theorem dL_law_749 : decode cL_law 749 = .ok (.aload_n 1, 1) := by decide +kernel
theorem dL_law_750 : decode cL_law 750 = .ok (.invokestatic 183, 3) := by decide +kernel
theorem dL_law_753 : decode cL_law 753 = .ok (.lload 10, 2) := by decide +kernel
theorem dL_law_755 : decode cL_law 755 = .ok (.lcmp, 1) := by decide +kernel
theorem dL_law_756 : decode cL_law 756 = .ok (.ifCond .ne 19, 3) := by decide +kernel
theorem dL_law_759 : decode cL_law 759 = .ok (.iload_n 3, 1) := by decide +kernel
theorem dL_law_760 : decode cL_law 760 = .ok (.bipush 8, 2) := by decide +kernel
theorem dL_law_762 : decode cL_law 762 = .ok (.irem, 1) := by decide +kernel
theorem dL_law_763 : decode cL_law 763 = .ok (.bipush 7, 2) := by decide +kernel
theorem dL_law_765 : decode cL_law 765 = .ok (.if_icmp .ne 12, 3) := by decide +kernel
theorem dL_law_768 : decode cL_law 768 = .ok (.aload_n 1, 1) := by decide +kernel
theorem dL_law_769 : decode cL_law 769 = .ok (.invokestatic 229, 3) := by decide +kernel
theorem dL_law_772 : decode cL_law 772 = .ok (.ifCond .ne 5, 3) := by decide +kernel
theorem dL_law_775 : decode cL_law 775 = .ok (.iconst 0, 1) := by decide +kernel
theorem dL_law_776 : decode cL_law 776 = .ok (.ireturn, 1) := by decide +kernel
theorem dL_law_777 : decode cL_law 777 = .ok (.iinc 3 1, 3) := by decide +kernel
theorem dL_law_780 : decode cL_law 780 = .ok (.goto (-759), 3) := by decide +kernel
theorem dL_law_783 : decode cL_law 783 = .ok (.aload_n 1, 1) := by decide +kernel
theorem dL_law_784 : decode cL_law 784 = .ok (.invokestatic 229, 3) := by decide +kernel
theorem dL_law_787 : decode cL_law 787 = .ok (.ifCond .ne 5, 3) := by decide +kernel
theorem dL_law_790 : decode cL_law 790 = .ok (.iconst 0, 1) := by decide +kernel
theorem dL_law_791 : decode cL_law 791 = .ok (.ireturn, 1) := by decide +kernel
theorem dL_law_792 : decode cL_law 792 = .ok (.aload_n 1, 1) := by decide +kernel
theorem dL_law_793 : decode cL_law 793 = .ok (.invokestatic 183, 3) := by decide +kernel
theorem dL_law_796 : decode cL_law 796 = .ok (.lstore_n 3, 1) := by decide +kernel
theorem dL_law_797 : decode cL_law 797 = .ok (.aload_n 1, 1) := by decide +kernel
theorem dL_law_798 : decode cL_law 798 = .ok (.invokestatic 174, 3) := by decide +kernel
theorem dL_law_801 : decode cL_law 801 = .ok (.istore 5, 2) := by decide +kernel
theorem dL_law_803 : decode cL_law 803 = .ok (.aload_n 1, 1) := by decide +kernel
theorem dL_law_804 : decode cL_law 804 = .ok (.invokevirtual 138, 3) := by decide +kernel
theorem dL_law_807 : decode cL_law 807 = .ok (.istore 6, 2) := by decide +kernel
theorem dL_law_809 : decode cL_law 809 = .ok (.iconst 2, 1) := by decide +kernel
theorem dL_law_810 : decode cL_law 810 = .ok (.newarray .int, 2) := by decide +kernel
theorem dL_law_812 : decode cL_law 812 = .ok (.dup, 1) := by decide +kernel
theorem dL_law_813 : decode cL_law 813 = .ok (.iconst 0, 1) := by decide +kernel
theorem dL_law_814 : decode cL_law 814 = .ok (.bipush 10, 2) := by decide +kernel
theorem dL_law_816 : decode cL_law 816 = .ok (.iastore, 1) := by decide +kernel
theorem dL_law_817 : decode cL_law 817 = .ok (.dup, 1) := by decide +kernel
theorem dL_law_818 : decode cL_law 818 = .ok (.iconst 1, 1) := by decide +kernel
theorem dL_law_819 : decode cL_law 819 = .ok (.bipush 100, 2) := by decide +kernel
theorem dL_law_821 : decode cL_law 821 = .ok (.iastore, 1) := by decide +kernel
theorem dL_law_822 : decode cL_law 822 = .ok (.astore 7, 2) := by decide +kernel
theorem dL_law_824 : decode cL_law 824 = .ok (.iconst 2, 1) := by decide +kernel
theorem dL_law_825 : decode cL_law 825 = .ok (.newarray .int, 2) := by decide +kernel
theorem dL_law_827 : decode cL_law 827 = .ok (.dup, 1) := by decide +kernel
theorem dL_law_828 : decode cL_law 828 = .ok (.iconst 0, 1) := by decide +kernel
theorem dL_law_829 : decode cL_law 829 = .ok (.iconst 0, 1) := by decide +kernel
theorem dL_law_830 : decode cL_law 830 = .ok (.iastore, 1) := by decide +kernel
theorem dL_law_831 : decode cL_law 831 = .ok (.dup, 1) := by decide +kernel
theorem dL_law_832 : decode cL_law 832 = .ok (.iconst 1, 1) := by decide +kernel
theorem dL_law_833 : decode cL_law 833 = .ok (.iconst 0, 1) := by decide +kernel
theorem dL_law_834 : decode cL_law 834 = .ok (.iastore, 1) := by decide +kernel
theorem dL_law_835 : decode cL_law 835 = .ok (.astore 8, 2) := by decide +kernel
theorem dL_law_837 : decode cL_law 837 = .ok (.aload_n 1, 1) := by decide +kernel
theorem dL_law_838 : decode cL_law 838 = .ok (.iload 5, 2) := by decide +kernel
theorem dL_law_840 : decode cL_law 840 = .ok (.bipush 120, 2) := by decide +kernel
theorem dL_law_842 : decode cL_law 842 = .ok (.bipush 9, 2) := by decide +kernel
theorem dL_law_844 : decode cL_law 844 = .ok (.invokestatic 198, 3) := by decide +kernel
theorem dL_law_847 : decode cL_law 847 = .ok (.sipush (-1001), 3) := by decide +kernel
theorem dL_law_850 : decode cL_law 850 = .ok (.if_icmp .ne 178, 3) := by decide +kernel
theorem dL_law_853 : decode cL_law 853 = .ok (.aload_n 1, 1) := by decide +kernel
theorem dL_law_854 : decode cL_law 854 = .ok (.iconst (-1), 1) := by decide +kernel
theorem dL_law_855 : decode cL_law 855 = .ok (.bipush 116, 2) := by decide +kernel
theorem dL_law_857 : decode cL_law 857 = .ok (.iconst (-1), 1) := by decide +kernel
theorem dL_law_858 : decode cL_law 858 = .ok (.invokestatic 198, 3) := by decide +kernel
theorem dL_law_861 : decode cL_law 861 = .ok (.sipush (-1001), 3) := by decide +kernel
theorem dL_law_864 : decode cL_law 864 = .ok (.if_icmp .ne 164, 3) := by decide +kernel
theorem dL_law_867 : decode cL_law 867 = .ok (.iload 5, 2) := by decide +kernel
theorem dL_law_869 : decode cL_law 869 = .ok (.ifCond .le 17, 3) := by decide +kernel
theorem dL_law_872 : decode cL_law 872 = .ok (.aload_n 1, 1) := by decide +kernel
theorem dL_law_873 : decode cL_law 873 = .ok (.iconst 0, 1) := by decide +kernel
theorem dL_law_874 : decode cL_law 874 = .ok (.bipush 120, 2) := by decide +kernel
theorem dL_law_876 : decode cL_law 876 = .ok (.iconst (-1), 1) := by decide +kernel
theorem dL_law_877 : decode cL_law 877 = .ok (.invokestatic 198, 3) := by decide +kernel
theorem dL_law_880 : decode cL_law 880 = .ok (.sipush (-1002), 3) := by decide +kernel
theorem dL_law_883 : decode cL_law 883 = .ok (.if_icmp .ne 145, 3) := by decide +kernel
theorem dL_law_886 : decode cL_law 886 = .ok (.iload 5, 2) := by decide +kernel
theorem dL_law_888 : decode cL_law 888 = .ok (.ifCond .le 18, 3) := by decide +kernel
theorem dL_law_891 : decode cL_law 891 = .ok (.aload_n 1, 1) := by decide +kernel
theorem dL_law_892 : decode cL_law 892 = .ok (.iconst 0, 1) := by decide +kernel
theorem dL_law_893 : decode cL_law 893 = .ok (.bipush 116, 2) := by decide +kernel
theorem dL_law_895 : decode cL_law 895 = .ok (.bipush 8, 2) := by decide +kernel
theorem dL_law_897 : decode cL_law 897 = .ok (.invokestatic 198, 3) := by decide +kernel
theorem dL_law_900 : decode cL_law 900 = .ok (.sipush (-1002), 3) := by decide +kernel
theorem dL_law_903 : decode cL_law 903 = .ok (.if_icmp .ne 125, 3) := by decide +kernel
theorem dL_law_906 : decode cL_law 906 = .ok (.iload 5, 2) := by decide +kernel
theorem dL_law_908 : decode cL_law 908 = .ok (.ifCond .le 18, 3) := by decide +kernel
theorem dL_law_911 : decode cL_law 911 = .ok (.aload_n 1, 1) := by decide +kernel
theorem dL_law_912 : decode cL_law 912 = .ok (.iconst 0, 1) := by decide +kernel
theorem dL_law_913 : decode cL_law 913 = .ok (.bipush 116, 2) := by decide +kernel
theorem dL_law_915 : decode cL_law 915 = .ok (.bipush (-2), 2) := by decide +kernel
theorem dL_law_917 : decode cL_law 917 = .ok (.invokestatic 198, 3) := by decide +kernel
theorem dL_law_920 : decode cL_law 920 = .ok (.sipush (-1002), 3) := by decide +kernel
theorem dL_law_923 : decode cL_law 923 = .ok (.if_icmp .ne 105, 3) := by decide +kernel
theorem dL_law_926 : decode cL_law 926 = .ok (.aload_n 1, 1) := by decide +kernel
theorem dL_law_927 : decode cL_law 927 = .ok (.iload 5, 2) := by decide +kernel
theorem dL_law_929 : decode cL_law 929 = .ok (.iconst 0, 1) := by decide +kernel
theorem dL_law_930 : decode cL_law 930 = .ok (.iconst 1, 1) := by decide +kernel
theorem dL_law_931 : decode cL_law 931 = .ok (.bipush 120, 2) := by decide +kernel
theorem dL_law_933 : decode cL_law 933 = .ok (.aload 7, 2) := by decide +kernel
theorem dL_law_935 : decode cL_law 935 = .ok (.invokestatic 204, 3) := by decide +kernel
theorem dL_law_938 : decode cL_law 938 = .ok (.sipush (-1001), 3) := by decide +kernel
theorem dL_law_941 : decode cL_law 941 = .ok (.if_icmp .ne 87, 3) := by decide +kernel
theorem dL_law_944 : decode cL_law 944 = .ok (.aload_n 1, 1) := by decide +kernel
theorem dL_law_945 : decode cL_law 945 = .ok (.iconst 0, 1) := by decide +kernel
theorem dL_law_946 : decode cL_law 946 = .ok (.bipush 8, 2) := by decide +kernel
theorem dL_law_948 : decode cL_law 948 = .ok (.iconst 0, 1) := by decide +kernel
theorem dL_law_949 : decode cL_law 949 = .ok (.bipush 101, 2) := by decide +kernel
theorem dL_law_951 : decode cL_law 951 = .ok (.aload 8, 2) := by decide +kernel
theorem dL_law_953 : decode cL_law 953 = .ok (.invokestatic 204, 3) := by decide +kernel
theorem dL_law_956 : decode cL_law 956 = .ok (.sipush (-1001), 3) := by decide +kernel
theorem dL_law_959 : decode cL_law 959 = .ok (.if_icmp .ne 69, 3) := by decide +kernel
theorem dL_law_962 : decode cL_law 962 = .ok (.aload_n 1, 1) := by decide +kernel
theorem dL_law_963 : decode cL_law 963 = .ok (.iload 5, 2) := by decide +kernel
theorem dL_law_965 : decode cL_law 965 = .ok (.iconst 0, 1) := by decide +kernel
theorem dL_law_966 : decode cL_law 966 = .ok (.bipush 116, 2) := by decide +kernel
theorem dL_law_968 : decode cL_law 968 = .ok (.iconst 1, 1) := by decide +kernel
theorem dL_law_969 : decode cL_law 969 = .ok (.invokestatic 208, 3) := by decide +kernel
theorem dL_law_972 : decode cL_law 972 = .ok (.sipush (-1001), 3) := by decide +kernel
theorem dL_law_975 : decode cL_law 975 = .ok (.if_icmp .ne 53, 3) := by decide +kernel
theorem dL_law_978 : decode cL_law 978 = .ok (.aload_n 1, 1) := by decide +kernel
theorem dL_law_979 : decode cL_law 979 = .ok (.iconst 0, 1) := by decide +kernel
theorem dL_law_980 : decode cL_law 980 = .ok (.bipush 8, 2) := by decide +kernel
theorem dL_law_982 : decode cL_law 982 = .ok (.iconst 0, 1) := by decide +kernel
theorem dL_law_983 : decode cL_law 983 = .ok (.invokestatic 212, 3) := by decide +kernel
theorem dL_law_986 : decode cL_law 986 = .ok (.sipush (-1001), 3) := by decide +kernel
theorem dL_law_989 : decode cL_law 989 = .ok (.if_icmp .ne 39, 3) := by decide +kernel
theorem dL_law_992 : decode cL_law 992 = .ok (.aload_n 1, 1) := by decide +kernel
theorem dL_law_993 : decode cL_law 993 = .ok (.iload 5, 2) := by decide +kernel
theorem dL_law_995 : decode cL_law 995 = .ok (.iconst 1, 1) := by decide +kernel
theorem dL_law_996 : decode cL_law 996 = .ok (.invokestatic 132, 3) := by decide +kernel
theorem dL_law_999 : decode cL_law 999 = .ok (.sipush (-1001), 3) := by decide +kernel
theorem dL_law_1002 : decode cL_law 1002 = .ok (.if_icmp .ne 26, 3) := by decide +kernel
theorem dL_law_1005 : decode cL_law 1005 = .ok (.aload_n 1, 1) := by decide +kernel
theorem dL_law_1006 : decode cL_law 1006 = .ok (.iload 5, 2) := by decide +kernel
theorem dL_law_1008 : decode cL_law 1008 = .ok (.invokestatic 215, 3) := by decide +kernel
theorem dL_law_1011 : decode cL_law 1011 = .ok (.sipush (-1001), 3) := by decide +kernel
theorem dL_law_1014 : decode cL_law 1014 = .ok (.if_icmp .ne 14, 3) := by decide +kernel
theorem dL_law_1017 : decode cL_law 1017 = .ok (.aload_n 1, 1) := by decide +kernel
theorem dL_law_1018 : decode cL_law 1018 = .ok (.iconst (-1), 1) := by decide +kernel
theorem dL_law_1019 : decode cL_law 1019 = .ok (.invokestatic 215, 3) := by decide +kernel
theorem dL_law_1022 : decode cL_law 1022 = .ok (.sipush (-1001), 3) := by decide +kernel
theorem dL_law_1025 : decode cL_law 1025 = .ok (.if_icmp .eq 5, 3) := by decide +kernel
theorem dL_law_1028 : decode cL_law 1028 = .ok (.iconst 0, 1) := by decide +kernel
theorem dL_law_1029 : decode cL_law 1029 = .ok (.ireturn, 1) := by decide +kernel
theorem dL_law_1030 : decode cL_law 1030 = .ok (.iload 5, 2) := by decide +kernel
theorem dL_law_1032 : decode cL_law 1032 = .ok (.ifCond .le 79, 3) := by decide +kernel
theorem dL_law_1035 : decode cL_law 1035 = .ok (.aload_n 1, 1) := by decide +kernel
theorem dL_law_1036 : decode cL_law 1036 = .ok (.iconst 0, 1) := by decide +kernel
theorem dL_law_1037 : decode cL_law 1037 = .ok (.iconst 0, 1) := by decide +kernel
theorem dL_law_1038 : decode cL_law 1038 = .ok (.invokestatic 132, 3) := by decide +kernel
theorem dL_law_1041 : decode cL_law 1041 = .ok (.ifCond .le 70, 3) := by decide +kernel
theorem dL_law_1044 : decode cL_law 1044 = .ok (.aload_n 1, 1) := by decide +kernel
theorem dL_law_1045 : decode cL_law 1045 = .ok (.iconst 0, 1) := by decide +kernel
theorem dL_law_1046 : decode cL_law 1046 = .ok (.iconst 0, 1) := by decide +kernel
theorem dL_law_1047 : decode cL_law 1047 = .ok (.iconst 1, 1) := by decide +kernel
theorem dL_law_1048 : decode cL_law 1048 = .ok (.bipush 120, 2) := by decide +kernel
theorem dL_law_1050 : decode cL_law 1050 = .ok (.aload 8, 2) := by decide +kernel
theorem dL_law_1052 : decode cL_law 1052 = .ok (.invokestatic 204, 3) := by decide +kernel
theorem dL_law_1055 : decode cL_law 1055 = .ok (.sipush (-1002), 3) := by decide +kernel
theorem dL_law_1058 : decode cL_law 1058 = .ok (.if_icmp .ne 51, 3) := by decide +kernel
theorem dL_law_1061 : decode cL_law 1061 = .ok (.aload_n 1, 1) := by decide +kernel
theorem dL_law_1062 : decode cL_law 1062 = .ok (.iconst 0, 1) := by decide +kernel
theorem dL_law_1063 : decode cL_law 1063 = .ok (.iconst 0, 1) := by decide +kernel
theorem dL_law_1064 : decode cL_law 1064 = .ok (.iconst 1, 1) := by decide +kernel
theorem dL_law_1065 : decode cL_law 1065 = .ok (.bipush 101, 2) := by decide +kernel
theorem dL_law_1067 : decode cL_law 1067 = .ok (.aload 7, 2) := by decide +kernel
theorem dL_law_1069 : decode cL_law 1069 = .ok (.invokestatic 204, 3) := by decide +kernel
theorem dL_law_1072 : decode cL_law 1072 = .ok (.sipush (-1002), 3) := by decide +kernel
theorem dL_law_1075 : decode cL_law 1075 = .ok (.if_icmp .ne 34, 3) := by decide +kernel
theorem dL_law_1078 : decode cL_law 1078 = .ok (.aload_n 1, 1) := by decide +kernel
theorem dL_law_1079 : decode cL_law 1079 = .ok (.iconst 0, 1) := by decide +kernel
theorem dL_law_1080 : decode cL_law 1080 = .ok (.iconst 0, 1) := by decide +kernel
theorem dL_law_1081 : decode cL_law 1081 = .ok (.iconst 1, 1) := by decide +kernel
theorem dL_law_1082 : decode cL_law 1082 = .ok (.bipush 100, 2) := by decide +kernel
theorem dL_law_1084 : decode cL_law 1084 = .ok (.aload 7, 2) := by decide +kernel
theorem dL_law_1086 : decode cL_law 1086 = .ok (.invokestatic 204, 3) := by decide +kernel
theorem dL_law_1089 : decode cL_law 1089 = .ok (.sipush (-1002), 3) := by decide +kernel
theorem dL_law_1092 : decode cL_law 1092 = .ok (.if_icmp .ne 17, 3) := by decide +kernel
theorem dL_law_1095 : decode cL_law 1095 = .ok (.aload_n 1, 1) := by decide +kernel
theorem dL_law_1096 : decode cL_law 1096 = .ok (.iconst 0, 1) := by decide +kernel
theorem dL_law_1097 : decode cL_law 1097 = .ok (.iconst 0, 1) := by decide +kernel
theorem dL_law_1098 : decode cL_law 1098 = .ok (.bipush 100, 2) := by decide +kernel
theorem dL_law_1100 : decode cL_law 1100 = .ok (.invokestatic 212, 3) := by decide +kernel
theorem dL_law_1103 : decode cL_law 1103 = .ok (.sipush (-1002), 3) := by decide +kernel
theorem dL_law_1106 : decode cL_law 1106 = .ok (.if_icmp .eq 5, 3) := by decide +kernel
theorem dL_law_1109 : decode cL_law 1109 = .ok (.iconst 0, 1) := by decide +kernel
theorem dL_law_1110 : decode cL_law 1110 = .ok (.ireturn, 1) := by decide +kernel
theorem dL_law_1111 : decode cL_law 1111 = .ok (.aload_n 1, 1) := by decide +kernel
theorem dL_law_1112 : decode cL_law 1112 = .ok (.iload 6, 2) := by decide +kernel
theorem dL_law_1114 : decode cL_law 1114 = .ok (.bipush 100, 2) := by decide +kernel
theorem dL_law_1116 : decode cL_law 1116 = .ok (.bipush 9, 2) := by decide +kernel
theorem dL_law_1118 : decode cL_law 1118 = .ok (.iconst 0, 1) := by decide +kernel
theorem dL_law_1119 : decode cL_law 1119 = .ok (.invokestatic 218, 3) := by decide +kernel
theorem dL_law_1122 : decode cL_law 1122 = .ok (.sipush (-1001), 3) := by decide +kernel
theorem dL_law_1125 : decode cL_law 1125 = .ok (.if_icmp .ne 313, 3) := by decide +kernel
theorem dL_law_1128 : decode cL_law 1128 = .ok (.iload 6, 2) := by decide +kernel
theorem dL_law_1130 : decode cL_law 1130 = .ok (.ifCond .le 18, 3) := by decide +kernel
theorem dL_law_1133 : decode cL_law 1133 = .ok (.aload_n 1, 1) := by decide +kernel
theorem dL_law_1134 : decode cL_law 1134 = .ok (.iconst 0, 1) := by decide +kernel
theorem dL_law_1135 : decode cL_law 1135 = .ok (.bipush 100, 2) := by decide +kernel
theorem dL_law_1137 : decode cL_law 1137 = .ok (.iconst 4, 1) := by decide +kernel
theorem dL_law_1138 : decode cL_law 1138 = .ok (.iconst 0, 1) := by decide +kernel
theorem dL_law_1139 : decode cL_law 1139 = .ok (.invokestatic 218, 3) := by decide +kernel
theorem dL_law_1142 : decode cL_law 1142 = .ok (.sipush (-1002), 3) := by decide +kernel
theorem dL_law_1145 : decode cL_law 1145 = .ok (.if_icmp .ne 293, 3) := by decide +kernel
theorem dL_law_1148 : decode cL_law 1148 = .ok (.iload 6, 2) := by decide +kernel
theorem dL_law_1150 : decode cL_law 1150 = .ok (.ifCond .le 19, 3) := by decide +kernel
theorem dL_law_1153 : decode cL_law 1153 = .ok (.aload_n 1, 1) := by decide +kernel
theorem dL_law_1154 : decode cL_law 1154 = .ok (.iconst 0, 1) := by decide +kernel
theorem dL_law_1155 : decode cL_law 1155 = .ok (.bipush 100, 2) := by decide +kernel
theorem dL_law_1157 : decode cL_law 1157 = .ok (.iconst 0, 1) := by decide +kernel
theorem dL_law_1158 : decode cL_law 1158 = .ok (.bipush 100, 2) := by decide +kernel
theorem dL_law_1160 : decode cL_law 1160 = .ok (.invokestatic 218, 3) := by decide +kernel
theorem dL_law_1163 : decode cL_law 1163 = .ok (.sipush (-1002), 3) := by decide +kernel
theorem dL_law_1166 : decode cL_law 1166 = .ok (.if_icmp .ne 272, 3) := by decide +kernel
theorem dL_law_1169 : decode cL_law 1169 = .ok (.iload 6, 2) := by decide +kernel
theorem dL_law_1171 : decode cL_law 1171 = .ok (.ifCond .le 19, 3) := by decide +kernel
theorem dL_law_1174 : decode cL_law 1174 = .ok (.aload_n 1, 1) := by decide +kernel
theorem dL_law_1175 : decode cL_law 1175 = .ok (.iconst 0, 1) := by decide +kernel
theorem dL_law_1176 : decode cL_law 1176 = .ok (.bipush 101, 2) := by decide +kernel
theorem dL_law_1178 : decode cL_law 1178 = .ok (.bipush 10, 2) := by decide +kernel
theorem dL_law_1180 : decode cL_law 1180 = .ok (.iconst 0, 1) := by decide +kernel
theorem dL_law_1181 : decode cL_law 1181 = .ok (.invokestatic 218, 3) := by decide +kernel
theorem dL_law_1184 : decode cL_law 1184 = .ok (.sipush (-1002), 3) := by decide +kernel
theorem dL_law_1187 : decode cL_law 1187 = .ok (.if_icmp .ne 251, 3) := by decide +kernel
theorem dL_law_1190 : decode cL_law 1190 = .ok (.aload_n 1, 1) := by decide +kernel
theorem dL_law_1191 : decode cL_law 1191 = .ok (.iconst (-1), 1) := by decide +kernel
theorem dL_law_1192 : decode cL_law 1192 = .ok (.bipush 101, 2) := by decide +kernel
theorem dL_law_1194 : decode cL_law 1194 = .ok (.bipush 10, 2) := by decide +kernel
theorem dL_law_1196 : decode cL_law 1196 = .ok (.iconst 0, 1) := by decide +kernel
theorem dL_law_1197 : decode cL_law 1197 = .ok (.invokestatic 218, 3) := by decide +kernel
theorem dL_law_1200 : decode cL_law 1200 = .ok (.sipush (-1001), 3) := by decide +kernel
theorem dL_law_1203 : decode cL_law 1203 = .ok (.if_icmp .ne 235, 3) := by decide +kernel
theorem dL_law_1206 : decode cL_law 1206 = .ok (.aload_n 1, 1) := by decide +kernel
theorem dL_law_1207 : decode cL_law 1207 = .ok (.iload 6, 2) := by decide +kernel
theorem dL_law_1209 : decode cL_law 1209 = .ok (.bipush 109, 2) := by decide +kernel
theorem dL_law_1211 : decode cL_law 1211 = .ok (.iconst 0, 1) := by decide +kernel
theorem dL_law_1212 : decode cL_law 1212 = .ok (.iconst 0, 1) := by decide +kernel
theorem dL_law_1213 : decode cL_law 1213 = .ok (.invokestatic 218, 3) := by decide +kernel
theorem dL_law_1216 : decode cL_law 1216 = .ok (.sipush (-1001), 3) := by decide +kernel
theorem dL_law_1219 : decode cL_law 1219 = .ok (.if_icmp .ne 219, 3) := by decide +kernel
theorem dL_law_1222 : decode cL_law 1222 = .ok (.aload_n 1, 1) := by decide +kernel
theorem dL_law_1223 : decode cL_law 1223 = .ok (.iconst 0, 1) := by decide +kernel
theorem dL_law_1224 : decode cL_law 1224 = .ok (.bipush 109, 2) := by decide +kernel
theorem dL_law_1226 : decode cL_law 1226 = .ok (.iload 5, 2) := by decide +kernel
theorem dL_law_1228 : decode cL_law 1228 = .ok (.iconst 0, 1) := by decide +kernel
theorem dL_law_1229 : decode cL_law 1229 = .ok (.invokestatic 218, 3) := by decide +kernel
theorem dL_law_1232 : decode cL_law 1232 = .ok (.sipush (-1001), 3) := by decide +kernel
theorem dL_law_1235 : decode cL_law 1235 = .ok (.if_icmp .ne 203, 3) := by decide +kernel
theorem dL_law_1238 : decode cL_law 1238 = .ok (.aload_n 1, 1) := by decide +kernel
theorem dL_law_1239 : decode cL_law 1239 = .ok (.iload 6, 2) := by decide +kernel
theorem dL_law_1241 : decode cL_law 1241 = .ok (.iconst 0, 1) := by decide +kernel
theorem dL_law_1242 : decode cL_law 1242 = .ok (.invokestatic 222, 3) := by decide +kernel
theorem dL_law_1245 : decode cL_law 1245 = .ok (.sipush (-1001), 3) := by decide +kernel
theorem dL_law_1248 : decode cL_law 1248 = .ok (.if_icmp .ne 190, 3) := by decide +kernel
theorem dL_law_1251 : decode cL_law 1251 = .ok (.aload_n 1, 1) := by decide +kernel
theorem dL_law_1252 : decode cL_law 1252 = .ok (.iconst 0, 1) := by decide +kernel
theorem dL_law_1253 : decode cL_law 1253 = .ok (.bipush 8, 2) := by decide +kernel
theorem dL_law_1255 : decode cL_law 1255 = .ok (.invokestatic 222, 3) := by decide +kernel
theorem dL_law_1258 : decode cL_law 1258 = .ok (.sipush (-1001), 3) := by decide +kernel
theorem dL_law_1261 : decode cL_law 1261 = .ok (.if_icmp .ne 177, 3) := by decide +kernel
theorem dL_law_1264 : decode cL_law 1264 = .ok (.aload_n 1, 1) := by decide +kernel
theorem dL_law_1265 : decode cL_law 1265 = .ok (.iload 6, 2) := by decide +kernel
theorem dL_law_1267 : decode cL_law 1267 = .ok (.iconst 1, 1) := by decide +kernel
theorem dL_law_1268 : decode cL_law 1268 = .ok (.invokestatic 224, 3) := by decide +kernel
theorem dL_law_1271 : decode cL_law 1271 = .ok (.sipush (-1001), 3) := by decide +kernel
theorem dL_law_1274 : decode cL_law 1274 = .ok (.if_icmp .ne 164, 3) := by decide +kernel
theorem dL_law_1277 : decode cL_law 1277 = .ok (.aload_n 1, 1) := by decide +kernel
theorem dL_law_1278 : decode cL_law 1278 = .ok (.iconst 0, 1) := by decide +kernel
theorem dL_law_1279 : decode cL_law 1279 = .ok (.invokestatic 227, 3) := by decide +kernel
theorem dL_law_1282 : decode cL_law 1282 = .ok (.sipush (-1001), 3) := by decide +kernel
theorem dL_law_1285 : decode cL_law 1285 = .ok (.if_icmp .ne 153, 3) := by decide +kernel
theorem dL_law_1288 : decode cL_law 1288 = .ok (.aload_n 1, 1) := by decide +kernel
theorem dL_law_1289 : decode cL_law 1289 = .ok (.bipush 11, 2) := by decide +kernel
theorem dL_law_1291 : decode cL_law 1291 = .ok (.invokestatic 227, 3) := by decide +kernel
theorem dL_law_1294 : decode cL_law 1294 = .ok (.sipush (-1001), 3) := by decide +kernel
theorem dL_law_1297 : decode cL_law 1297 = .ok (.if_icmp .ne 141, 3) := by decide +kernel
theorem dL_law_1300 : decode cL_law 1300 = .ok (.aload_n 1, 1) := by decide +kernel
theorem dL_law_1301 : decode cL_law 1301 = .ok (.iload 6, 2) := by decide +kernel
theorem dL_law_1303 : decode cL_law 1303 = .ok (.iconst 0, 1) := by decide +kernel
theorem dL_law_1304 : decode cL_law 1304 = .ok (.iconst 1, 1) := by decide +kernel
theorem dL_law_1305 : decode cL_law 1305 = .ok (.invokestatic 155, 3) := by decide +kernel
theorem dL_law_1308 : decode cL_law 1308 = .ok (.sipush (-1001), 3) := by decide +kernel
theorem dL_law_1311 : decode cL_law 1311 = .ok (.if_icmp .ne 127, 3) := by decide +kernel
theorem dL_law_1314 : decode cL_law 1314 = .ok (.aload_n 1, 1) := by decide +kernel
theorem dL_law_1315 : decode cL_law 1315 = .ok (.iconst 0, 1) := by decide +kernel
theorem dL_law_1316 : decode cL_law 1316 = .ok (.bipush 8, 2) := by decide +kernel
theorem dL_law_1318 : decode cL_law 1318 = .ok (.iconst 3, 1) := by decide +kernel
theorem dL_law_1319 : decode cL_law 1319 = .ok (.invokestatic 155, 3) := by decide +kernel
theorem dL_law_1322 : decode cL_law 1322 = .ok (.sipush (-1001), 3) := by decide +kernel
theorem dL_law_1325 : decode cL_law 1325 = .ok (.if_icmp .ne 113, 3) := by decide +kernel
theorem dL_law_1328 : decode cL_law 1328 = .ok (.aload_n 1, 1) := by decide +kernel
theorem dL_law_1329 : decode cL_law 1329 = .ok (.iload 6, 2) := by decide +kernel
theorem dL_law_1331 : decode cL_law 1331 = .ok (.iconst 0, 1) := by decide +kernel
theorem dL_law_1332 : decode cL_law 1332 = .ok (.iconst 1, 1) := by decide +kernel
theorem dL_law_1333 : decode cL_law 1333 = .ok (.iconst 0, 1) := by decide +kernel
theorem dL_law_1334 : decode cL_law 1334 = .ok (.invokestatic 233, 3) := by decide +kernel
theorem dL_law_1337 : decode cL_law 1337 = .ok (.sipush (-1001), 3) := by decide +kernel
theorem dL_law_1340 : decode cL_law 1340 = .ok (.if_icmp .ne 98, 3) := by decide +kernel
theorem dL_law_1343 : decode cL_law 1343 = .ok (.iload 6, 2) := by decide +kernel
theorem dL_law_1345 : decode cL_law 1345 = .ok (.ifCond .le 17, 3) := by decide +kernel
theorem dL_law_1348 : decode cL_law 1348 = .ok (.aload_n 1, 1) := by decide +kernel
theorem dL_law_1349 : decode cL_law 1349 = .ok (.iconst 0, 1) := by decide +kernel
theorem dL_law_1350 : decode cL_law 1350 = .ok (.iconst 0, 1) := by decide +kernel
theorem dL_law_1351 : decode cL_law 1351 = .ok (.iconst 1, 1) := by decide +kernel
theorem dL_law_1352 : decode cL_law 1352 = .ok (.iconst 3, 1) := by decide +kernel
theorem dL_law_1353 : decode cL_law 1353 = .ok (.invokestatic 233, 3) := by decide +kernel
theorem dL_law_1356 : decode cL_law 1356 = .ok (.sipush (-1002), 3) := by decide +kernel
theorem dL_law_1359 : decode cL_law 1359 = .ok (.if_icmp .ne 79, 3) := by decide +kernel
theorem dL_law_1362 : decode cL_law 1362 = .ok (.iload 6, 2) := by decide +kernel
theorem dL_law_1364 : decode cL_law 1364 = .ok (.ifCond .le 17, 3) := by decide +kernel
theorem dL_law_1367 : decode cL_law 1367 = .ok (.aload_n 1, 1) := by decide +kernel
theorem dL_law_1368 : decode cL_law 1368 = .ok (.iconst 0, 1) := by decide +kernel
theorem dL_law_1369 : decode cL_law 1369 = .ok (.iconst 0, 1) := by decide +kernel
theorem dL_law_1370 : decode cL_law 1370 = .ok (.iconst 0, 1) := by decide +kernel
theorem dL_law_1371 : decode cL_law 1371 = .ok (.iconst (-1), 1) := by decide +kernel
theorem dL_law_1372 : decode cL_law 1372 = .ok (.invokestatic 233, 3) := by decide +kernel
theorem dL_law_1375 : decode cL_law 1375 = .ok (.sipush (-1002), 3) := by decide +kernel
theorem dL_law_1378 : decode cL_law 1378 = .ok (.if_icmp .ne 60, 3) := by decide +kernel
theorem dL_law_1381 : decode cL_law 1381 = .ok (.aload_n 1, 1) := by decide +kernel
theorem dL_law_1382 : decode cL_law 1382 = .ok (.iload 6, 2) := by decide +kernel
theorem dL_law_1384 : decode cL_law 1384 = .ok (.bipush 7, 2) := by decide +kernel
theorem dL_law_1386 : decode cL_law 1386 = .ok (.invokestatic 149, 3) := by decide +kernel
theorem dL_law_1389 : decode cL_law 1389 = .ok (.sipush (-1001), 3) := by decide +kernel
theorem dL_law_1392 : decode cL_law 1392 = .ok (.if_icmp .ne 46, 3) := by decide +kernel
theorem dL_law_1395 : decode cL_law 1395 = .ok (.aload_n 1, 1) := by decide +kernel
theorem dL_law_1396 : decode cL_law 1396 = .ok (.iload 6, 2) := by decide +kernel
theorem dL_law_1398 : decode cL_law 1398 = .ok (.bipush 9, 2) := by decide +kernel
theorem dL_law_1400 : decode cL_law 1400 = .ok (.invokestatic 153, 3) := by decide +kernel
theorem dL_law_1403 : decode cL_law 1403 = .ok (.sipush (-1001), 3) := by decide +kernel
theorem dL_law_1406 : decode cL_law 1406 = .ok (.if_icmp .ne 32, 3) := by decide +kernel
theorem dL_law_1409 : decode cL_law 1409 = .ok (.iload 6, 2) := by decide +kernel
theorem dL_law_1411 : decode cL_law 1411 = .ok (.ifCond .le 15, 3) := by decide +kernel
theorem dL_law_1414 : decode cL_law 1414 = .ok (.aload_n 1, 1) := by decide +kernel
theorem dL_law_1415 : decode cL_law 1415 = .ok (.iconst 0, 1) := by decide +kernel
theorem dL_law_1416 : decode cL_law 1416 = .ok (.iconst (-1), 1) := by decide +kernel
theorem dL_law_1417 : decode cL_law 1417 = .ok (.invokestatic 153, 3) := by decide +kernel
theorem dL_law_1420 : decode cL_law 1420 = .ok (.sipush (-1002), 3) := by decide +kernel
theorem dL_law_1423 : decode cL_law 1423 = .ok (.if_icmp .ne 15, 3) := by decide +kernel
theorem dL_law_1426 : decode cL_law 1426 = .ok (.aload_n 1, 1) := by decide +kernel
theorem dL_law_1427 : decode cL_law 1427 = .ok (.iload 6, 2) := by decide +kernel
theorem dL_law_1429 : decode cL_law 1429 = .ok (.invokestatic 161, 3) := by decide +kernel
theorem dL_law_1432 : decode cL_law 1432 = .ok (.ldc 131, 2) := by decide +kernel
theorem dL_law_1434 : decode cL_law 1434 = .ok (.fcmp .l, 1) := by decide +kernel
theorem dL_law_1435 : decode cL_law 1435 = .ok (.ifCond .eq 5, 3) := by decide +kernel
theorem dL_law_1438 : decode cL_law 1438 = .ok (.iconst 0, 1) := by decide +kernel
theorem dL_law_1439 : decode cL_law 1439 = .ok (.ireturn, 1) := by decide +kernel
theorem dL_law_1440 : decode cL_law 1440 = .ok (.aload_n 1, 1) := by decide +kernel
theorem dL_law_1441 : decode cL_law 1441 = .ok (.invokestatic 183, 3) := by decide +kernel
theorem dL_law_1444 : decode cL_law 1444 = .ok (.lload_n 3, 1) := by decide +kernel
theorem dL_law_1445 : decode cL_law 1445 = .ok (.lcmp, 1) := by decide +kernel
theorem dL_law_1446 : decode cL_law 1446 = .ok (.ifCond .ne 7, 3) := by decide +kernel
theorem dL_law_1449 : decode cL_law 1449 = .ok (.iconst 1, 1) := by decide +kernel
theorem dL_law_1450 : decode cL_law 1450 = .ok (.goto 4, 3) := by decide +kernel
theorem dL_law_1453 : decode cL_law 1453 = .ok (.iconst 0, 1) := by decide +kernel
theorem dL_law_1454 : decode cL_law 1454 = .ok (.ireturn, 1) := by decide +kernel
