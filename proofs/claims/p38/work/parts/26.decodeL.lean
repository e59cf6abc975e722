theorem dL_cell_0 : decode cL_cell 0 = .ok (.iload_n 1, 1) := by decide +kernel
theorem dL_cell_1 : decode cL_cell 1 = .ok (.aload_n 0, 1) := by decide +kernel
theorem dL_cell_2 : decode cL_cell 2 = .ok (.arraylength, 1) := by decide +kernel
theorem dL_cell_3 : decode cL_cell 3 = .ok (.if_icmp .ge 9, 3) := by decide +kernel
theorem dL_cell_6 : decode cL_cell 6 = .ok (.aload_n 0, 1) := by decide +kernel
theorem dL_cell_7 : decode cL_cell 7 = .ok (.iload_n 1, 1) := by decide +kernel
theorem dL_cell_8 : decode cL_cell 8 = .ok (.iaload, 1) := by decide +kernel
theorem dL_cell_9 : decode cL_cell 9 = .ok (.goto 4, 3) := by decide +kernel
theorem dL_cell_12 : decode cL_cell 12 = .ok (.iconst 0, 1) := by decide +kernel
theorem dL_cell_13 : decode cL_cell 13 = .ok (.ireturn, 1) := by decide +kernel
theorem dL_some_0 : decode cL_some 0 = .ok (.iload_n 0, 1) := by decide +kernel
theorem dL_some_1 : decode cL_some 1 = .ok (.iload_n 1, 1) := by decide +kernel
theorem dL_some_2 : decode cL_some 2 = .ok (.irem, 1) := by decide +kernel
theorem dL_some_3 : decode cL_some 3 = .ok (.istore_n 2, 1) := by decide +kernel
theorem dL_some_4 : decode cL_some 4 = .ok (.iload_n 2, 1) := by decide +kernel
theorem dL_some_5 : decode cL_some 5 = .ok (.ifCond .ge 9, 3) := by decide +kernel
theorem dL_some_8 : decode cL_some 8 = .ok (.iload_n 2, 1) := by decide +kernel
theorem dL_some_9 : decode cL_some 9 = .ok (.iload_n 1, 1) := by decide +kernel
theorem dL_some_10 : decode cL_some 10 = .ok (.iadd, 1) := by decide +kernel
theorem dL_some_11 : decode cL_some 11 = .ok (.goto 4, 3) := by decide +kernel
theorem dL_some_14 : decode cL_some 14 = .ok (.iload_n 2, 1) := by decide +kernel
theorem dL_some_15 : decode cL_some 15 = .ok (.ireturn, 1) := by decide +kernel
theorem dL_plan_0 : decode cL_plan 0 = .ok (.aload_n 0, 1) := by decide +kernel
theorem dL_plan_1 : decode cL_plan 1 = .ok (.invokevirtual 7, 3) := by decide +kernel
theorem dL_plan_4 : decode cL_plan 4 = .ok (.ireturn, 1) := by decide +kernel
theorem dL_plan_5 : decode cL_plan 5 = .ok (.astore_n 1, 1) := by decide +kernel
theorem dL_plan_6 : decode cL_plan 6 = .ok (.sipush (-1001), 3) := by decide +kernel
theorem dL_plan_9 : decode cL_plan 9 = .ok (.ireturn, 1) := by decide +kernel
theorem dL_step_0 : decode cL_step 0 = .ok (.aload_n 0, 1) := by decide +kernel
theorem dL_step_1 : decode cL_step 1 = .ok (.iload_n 1, 1) := by decide +kernel
theorem dL_step_2 : decode cL_step 2 = .ok (.iload_n 2, 1) := by decide +kernel
theorem dL_step_3 : decode cL_step 3 = .ok (.iload_n 3, 1) := by decide +kernel
theorem dL_step_4 : decode cL_step 4 = .ok (.invokevirtual 15, 3) := by decide +kernel
theorem dL_step_7 : decode cL_step 7 = .ok (.ireturn, 1) := by decide +kernel
theorem dL_step_8 : decode cL_step 8 = .ok (.astore 4, 2) := by decide +kernel
theorem dL_step_10 : decode cL_step 10 = .ok (.sipush (-1001), 3) := by decide +kernel
theorem dL_step_13 : decode cL_step 13 = .ok (.ireturn, 1) := by decide +kernel
theorem dL_step_14 : decode cL_step 14 = .ok (.astore 4, 2) := by decide +kernel
theorem dL_step_16 : decode cL_step 16 = .ok (.sipush (-1002), 3) := by decide +kernel
theorem dL_step_19 : decode cL_step 19 = .ok (.ireturn, 1) := by decide +kernel
theorem dL_step_20 : decode cL_step 20 = .ok (.astore 4, 2) := by decide +kernel
theorem dL_step_22 : decode cL_step 22 = .ok (.sipush (-1003), 3) := by decide +kernel
theorem dL_step_25 : decode cL_step 25 = .ok (.ireturn, 1) := by decide +kernel
theorem dL_condition_0 : decode cL_condition 0 = .ok (.iload_n 3, 1) := by decide +kernel
theorem dL_condition_1 : decode cL_condition 1 = .ok (.ifCond .eq 22, 3) := by decide +kernel
theorem dL_condition_4 : decode cL_condition 4 = .ok (.aload_n 0, 1) := by decide +kernel
theorem dL_condition_5 : decode cL_condition 5 = .ok (.iload_n 1, 1) := by decide +kernel
theorem dL_condition_6 : decode cL_condition 6 = .ok (.iload_n 2, 1) := by decide +kernel
theorem dL_condition_7 : decode cL_condition 7 = .ok (.iload 4, 2) := by decide +kernel
theorem dL_condition_9 : decode cL_condition 9 = .ok (.aload 5, 2) := by decide +kernel
theorem dL_condition_11 : decode cL_condition 11 = .ok (.iconst 0, 1) := by decide +kernel
theorem dL_condition_12 : decode cL_condition 12 = .ok (.iaload, 1) := by decide +kernel
theorem dL_condition_13 : decode cL_condition 13 = .ok (.aload 5, 2) := by decide +kernel
theorem dL_condition_15 : decode cL_condition 15 = .ok (.iconst 1, 1) := by decide +kernel
theorem dL_condition_16 : decode cL_condition 16 = .ok (.iaload, 1) := by decide +kernel
theorem dL_condition_17 : decode cL_condition 17 = .ok (.invokevirtual 23, 3) := by decide +kernel
theorem dL_condition_20 : decode cL_condition 20 = .ok (.goto 19, 3) := by decide +kernel
theorem dL_condition_23 : decode cL_condition 23 = .ok (.aload_n 0, 1) := by decide +kernel
theorem dL_condition_24 : decode cL_condition 24 = .ok (.iload_n 1, 1) := by decide +kernel
theorem dL_condition_25 : decode cL_condition 25 = .ok (.iload_n 2, 1) := by decide +kernel
theorem dL_condition_26 : decode cL_condition 26 = .ok (.iload 4, 2) := by decide +kernel
theorem dL_condition_28 : decode cL_condition 28 = .ok (.aload 5, 2) := by decide +kernel
theorem dL_condition_30 : decode cL_condition 30 = .ok (.iconst 0, 1) := by decide +kernel
theorem dL_condition_31 : decode cL_condition 31 = .ok (.iaload, 1) := by decide +kernel
theorem dL_condition_32 : decode cL_condition 32 = .ok (.aload 5, 2) := by decide +kernel
theorem dL_condition_34 : decode cL_condition 34 = .ok (.iconst 1, 1) := by decide +kernel
theorem dL_condition_35 : decode cL_condition 35 = .ok (.iaload, 1) := by decide +kernel
theorem dL_condition_36 : decode cL_condition 36 = .ok (.invokevirtual 27, 3) := by decide +kernel
theorem dL_condition_39 : decode cL_condition 39 = .ok (.ireturn, 1) := by decide +kernel
theorem dL_condition_40 : decode cL_condition 40 = .ok (.astore 6, 2) := by decide +kernel
theorem dL_condition_42 : decode cL_condition 42 = .ok (.sipush (-1001), 3) := by decide +kernel
theorem dL_condition_45 : decode cL_condition 45 = .ok (.ireturn, 1) := by decide +kernel
theorem dL_condition_46 : decode cL_condition 46 = .ok (.astore 6, 2) := by decide +kernel
theorem dL_condition_48 : decode cL_condition 48 = .ok (.sipush (-1002), 3) := by decide +kernel
theorem dL_condition_51 : decode cL_condition 51 = .ok (.ireturn, 1) := by decide +kernel
theorem dL_condition_52 : decode cL_condition 52 = .ok (.astore 6, 2) := by decide +kernel
theorem dL_condition_54 : decode cL_condition 54 = .ok (.sipush (-1003), 3) := by decide +kernel
theorem dL_condition_57 : decode cL_condition 57 = .ok (.ireturn, 1) := by decide +kernel
theorem dL_condition_58 : decode cL_condition 58 = .ok (.astore 6, 2) := by decide +kernel
theorem dL_condition_60 : decode cL_condition 60 = .ok (.sipush (-1004), 3) := by decide +kernel
theorem dL_condition_63 : decode cL_condition 63 = .ok (.ireturn, 1) := by decide +kernel
theorem dL_flag_0 : decode cL_flag 0 = .ok (.iload_n 3, 1) := by decide +kernel
theorem dL_flag_1 : decode cL_flag 1 = .ok (.bipush 116, 2) := by decide +kernel
theorem dL_flag_3 : decode cL_flag 3 = .ok (.if_icmp .ne 17, 3) := by decide +kernel
theorem dL_flag_6 : decode cL_flag 6 = .ok (.aload_n 0, 1) := by decide +kernel
theorem dL_flag_7 : decode cL_flag 7 = .ok (.iload_n 1, 1) := by decide +kernel
theorem dL_flag_8 : decode cL_flag 8 = .ok (.iload_n 2, 1) := by decide +kernel
theorem dL_flag_9 : decode cL_flag 9 = .ok (.iload 4, 2) := by decide +kernel
theorem dL_flag_11 : decode cL_flag 11 = .ok (.invokevirtual 32, 3) := by decide +kernel
theorem dL_flag_14 : decode cL_flag 14 = .ok (.ifCond .eq 21, 3) := by decide +kernel
theorem dL_flag_17 : decode cL_flag 17 = .ok (.goto 14, 3) := by decide +kernel
theorem dL_flag_20 : decode cL_flag 20 = .ok (.aload_n 0, 1) := by decide +kernel
theorem dL_flag_21 : decode cL_flag 21 = .ok (.iload_n 1, 1) := by decide +kernel
theorem dL_flag_22 : decode cL_flag 22 = .ok (.iload_n 2, 1) := by decide +kernel
theorem dL_flag_23 : decode cL_flag 23 = .ok (.iload 4, 2) := by decide +kernel
theorem dL_flag_25 : decode cL_flag 25 = .ok (.invokevirtual 36, 3) := by decide +kernel
theorem dL_flag_28 : decode cL_flag 28 = .ok (.ifCond .eq 7, 3) := by decide +kernel
theorem dL_flag_31 : decode cL_flag 31 = .ok (.iconst 1, 1) := by decide +kernel
theorem dL_flag_32 : decode cL_flag 32 = .ok (.goto 4, 3) := by decide +kernel
theorem dL_flag_35 : decode cL_flag 35 = .ok (.iconst 0, 1) := by decide +kernel
theorem dL_flag_36 : decode cL_flag 36 = .ok (.ireturn, 1) := by decide +kernel
theorem dL_flag_37 : decode cL_flag 37 = .ok (.astore 5, 2) := by decide +kernel
theorem dL_flag_39 : decode cL_flag 39 = .ok (.sipush (-1001), 3) := by decide +kernel
theorem dL_flag_42 : decode cL_flag 42 = .ok (.ireturn, 1) := by decide +kernel
theorem dL_flag_43 : decode cL_flag 43 = .ok (.astore 5, 2) := by decide +kernel
theorem dL_flag_45 : decode cL_flag 45 = .ok (.sipush (-1002), 3) := by decide +kernel
theorem dL_flag_48 : decode cL_flag 48 = .ok (.ireturn, 1) := by decide +kernel
theorem dL_flag_49 : decode cL_flag 49 = .ok (.astore 5, 2) := by decide +kernel
theorem dL_flag_51 : decode cL_flag 51 = .ok (.sipush (-1003), 3) := by decide +kernel
theorem dL_flag_54 : decode cL_flag 54 = .ok (.ireturn, 1) := by decide +kernel
theorem dL_limit_0 : decode cL_limit 0 = .ok (.aload_n 0, 1) := by decide +kernel
theorem dL_limit_1 : decode cL_limit 1 = .ok (.iload_n 1, 1) := by decide +kernel
theorem dL_limit_2 : decode cL_limit 2 = .ok (.iload_n 2, 1) := by decide +kernel
theorem dL_limit_3 : decode cL_limit 3 = .ok (.iload_n 3, 1) := by decide +kernel
theorem dL_limit_4 : decode cL_limit 4 = .ok (.invokevirtual 39, 3) := by decide +kernel
theorem dL_limit_7 : decode cL_limit 7 = .ok (.ireturn, 1) := by decide +kernel
theorem dL_limit_8 : decode cL_limit 8 = .ok (.astore 4, 2) := by decide +kernel
theorem dL_limit_10 : decode cL_limit 10 = .ok (.sipush (-1001), 3) := by decide +kernel
theorem dL_limit_13 : decode cL_limit 13 = .ok (.ireturn, 1) := by decide +kernel
theorem dL_limit_14 : decode cL_limit 14 = .ok (.astore 4, 2) := by decide +kernel
theorem dL_limit_16 : decode cL_limit 16 = .ok (.sipush (-1002), 3) := by decide +kernel
theorem dL_limit_19 : decode cL_limit 19 = .ok (.ireturn, 1) := by decide +kernel
theorem dL_limit_20 : decode cL_limit 20 = .ok (.astore 4, 2) := by decide +kernel
theorem dL_limit_22 : decode cL_limit 22 = .ok (.sipush (-1003), 3) := by decide +kernel
theorem dL_limit_25 : decode cL_limit 25 = .ok (.ireturn, 1) := by decide +kernel
theorem dL_limit_26 : decode cL_limit 26 = .ok (.astore 4, 2) := by decide +kernel
theorem dL_limit_28 : decode cL_limit 28 = .ok (.sipush (-1004), 3) := by decide +kernel
theorem dL_limit_31 : decode cL_limit 31 = .ok (.ireturn, 1) := by decide +kernel
theorem dL_of_0 : decode cL_of 0 = .ok (.iload_n 2, 1) := by decide +kernel
theorem dL_of_1 : decode cL_of 1 = .ok (.ifCond .eq 19, 3) := by decide +kernel
theorem dL_of_4 : decode cL_of 4 = .ok (.aload_n 0, 1) := by decide +kernel
theorem dL_of_5 : decode cL_of 5 = .ok (.iload_n 1, 1) := by decide +kernel
theorem dL_of_6 : decode cL_of 6 = .ok (.invokevirtual 43, 3) := by decide +kernel
theorem dL_of_9 : decode cL_of 9 = .ok (.ifCond .eq 7, 3) := by decide +kernel
theorem dL_of_12 : decode cL_of 12 = .ok (.iconst 1, 1) := by decide +kernel
theorem dL_of_13 : decode cL_of 13 = .ok (.goto 12, 3) := by decide +kernel
theorem dL_of_16 : decode cL_of 16 = .ok (.iconst 0, 1) := by decide +kernel
theorem dL_of_17 : decode cL_of 17 = .ok (.goto 8, 3) := by decide +kernel
theorem dL_of_20 : decode cL_of 20 = .ok (.aload_n 0, 1) := by decide +kernel
theorem dL_of_21 : decode cL_of 21 = .ok (.iload_n 1, 1) := by decide +kernel
theorem dL_of_22 : decode cL_of 22 = .ok (.invokevirtual 47, 3) := by decide +kernel
theorem dL_of_25 : decode cL_of 25 = .ok (.ireturn, 1) := by decide +kernel
theorem dL_of_26 : decode cL_of 26 = .ok (.astore_n 3, 1) := by decide +kernel
theorem dL_of_27 : decode cL_of 27 = .ok (.sipush (-1001), 3) := by decide +kernel
theorem dL_of_30 : decode cL_of 30 = .ok (.ireturn, 1) := by decide +kernel
theorem dL_begin_0 : decode cL_begin 0 = .ok (.aload_n 0, 1) := by decide +kernel
theorem dL_begin_1 : decode cL_begin 1 = .ok (.iload_n 1, 1) := by decide +kernel
theorem dL_begin_2 : decode cL_begin 2 = .ok (.invokevirtual 51, 3) := by decide +kernel
theorem dL_begin_5 : decode cL_begin 5 = .ok (.ireturn, 1) := by decide +kernel
theorem dL_begin_6 : decode cL_begin 6 = .ok (.astore_n 2, 1) := by decide +kernel
theorem dL_begin_7 : decode cL_begin 7 = .ok (.sipush (-1001), 3) := by decide +kernel
theorem dL_begin_10 : decode cL_begin 10 = .ok (.ireturn, 1) := by decide +kernel
theorem dL_begin_11 : decode cL_begin 11 = .ok (.astore_n 2, 1) := by decide +kernel
theorem dL_begin_12 : decode cL_begin 12 = .ok (.sipush (-1002), 3) := by decide +kernel
theorem dL_begin_15 : decode cL_begin 15 = .ok (.ireturn, 1) := by decide +kernel
theorem dL_happens_0 : decode cL_happens 0 = .ok (.iload_n 2, 1) := by decide +kernel
theorem dL_happens_1 : decode cL_happens 1 = .ok (.bipush 100, 2) := by decide +kernel
theorem dL_happens_3 : decode cL_happens 3 = .ok (.if_icmp .ne 14, 3) := by decide +kernel
theorem dL_happens_6 : decode cL_happens 6 = .ok (.aload_n 0, 1) := by decide +kernel
theorem dL_happens_7 : decode cL_happens 7 = .ok (.iload_n 1, 1) := by decide +kernel
theorem dL_happens_8 : decode cL_happens 8 = .ok (.iload_n 3, 1) := by decide +kernel
theorem dL_happens_9 : decode cL_happens 9 = .ok (.iload 4, 2) := by decide +kernel
theorem dL_happens_11 : decode cL_happens 11 = .ok (.invokevirtual 54, 3) := by decide +kernel
theorem dL_happens_14 : decode cL_happens 14 = .ok (.goto 24, 3) := by decide +kernel
theorem dL_happens_17 : decode cL_happens 17 = .ok (.iload_n 2, 1) := by decide +kernel
theorem dL_happens_18 : decode cL_happens 18 = .ok (.bipush 101, 2) := by decide +kernel
theorem dL_happens_20 : decode cL_happens 20 = .ok (.if_icmp .ne 12, 3) := by decide +kernel
theorem dL_happens_23 : decode cL_happens 23 = .ok (.aload_n 0, 1) := by decide +kernel
theorem dL_happens_24 : decode cL_happens 24 = .ok (.iload_n 1, 1) := by decide +kernel
theorem dL_happens_25 : decode cL_happens 25 = .ok (.iload_n 3, 1) := by decide +kernel
theorem dL_happens_26 : decode cL_happens 26 = .ok (.invokevirtual 57, 3) := by decide +kernel
theorem dL_happens_29 : decode cL_happens 29 = .ok (.goto 9, 3) := by decide +kernel
theorem dL_happens_32 : decode cL_happens 32 = .ok (.aload_n 0, 1) := by decide +kernel
theorem dL_happens_33 : decode cL_happens 33 = .ok (.iload_n 1, 1) := by decide +kernel
theorem dL_happens_34 : decode cL_happens 34 = .ok (.iload_n 3, 1) := by decide +kernel
theorem dL_happens_35 : decode cL_happens 35 = .ok (.invokevirtual 61, 3) := by decide +kernel
theorem dL_happens_38 : decode cL_happens 38 = .ok (.ireturn, 1) := by decide +kernel
theorem dL_happens_39 : decode cL_happens 39 = .ok (.astore 5, 2) := by decide +kernel
theorem dL_happens_41 : decode cL_happens 41 = .ok (.sipush (-1001), 3) := by decide +kernel
theorem dL_happens_44 : decode cL_happens 44 = .ok (.ireturn, 1) := by decide +kernel
theorem dL_happens_45 : decode cL_happens 45 = .ok (.astore 5, 2) := by decide +kernel
theorem dL_happens_47 : decode cL_happens 47 = .ok (.sipush (-1002), 3) := by decide +kernel
theorem dL_happens_50 : decode cL_happens 50 = .ok (.ireturn, 1) := by decide +kernel
theorem dL_complete_0 : decode cL_complete 0 = .ok (.aload_n 0, 1) := by decide +kernel
theorem dL_complete_1 : decode cL_complete 1 = .ok (.iload_n 1, 1) := by decide +kernel
theorem dL_complete_2 : decode cL_complete 2 = .ok (.iload_n 2, 1) := by decide +kernel
theorem dL_complete_3 : decode cL_complete 3 = .ok (.invokevirtual 64, 3) := by decide +kernel
theorem dL_complete_6 : decode cL_complete 6 = .ok (.ireturn, 1) := by decide +kernel
theorem dL_complete_7 : decode cL_complete 7 = .ok (.astore_n 3, 1) := by decide +kernel
theorem dL_complete_8 : decode cL_complete 8 = .ok (.sipush (-1001), 3) := by decide +kernel
theorem dL_complete_11 : decode cL_complete 11 = .ok (.ireturn, 1) := by decide +kernel
theorem dL_complete_12 : decode cL_complete 12 = .ok (.astore_n 3, 1) := by decide +kernel
theorem dL_complete_13 : decode cL_complete 13 = .ok (.sipush (-1002), 3) := by decide +kernel
theorem dL_complete_16 : decode cL_complete 16 = .ok (.ireturn, 1) := by decide +kernel
theorem dL_complete_17 : decode cL_complete 17 = .ok (.astore_n 3, 1) := by decide +kernel
theorem dL_complete_18 : decode cL_complete 18 = .ok (.sipush (-1003), 3) := by decide +kernel
theorem dL_complete_21 : decode cL_complete 21 = .ok (.ireturn, 1) := by decide +kernel
theorem dL_waiting_0 : decode cL_waiting 0 = .ok (.aload_n 0, 1) := by decide +kernel
theorem dL_waiting_1 : decode cL_waiting 1 = .ok (.iload_n 1, 1) := by decide +kernel
theorem dL_waiting_2 : decode cL_waiting 2 = .ok (.iload_n 2, 1) := by decide +kernel
theorem dL_waiting_3 : decode cL_waiting 3 = .ok (.invokevirtual 67, 3) := by decide +kernel
theorem dL_waiting_6 : decode cL_waiting 6 = .ok (.ifCond .eq 7, 3) := by decide +kernel
theorem dL_waiting_9 : decode cL_waiting 9 = .ok (.iconst 1, 1) := by decide +kernel
theorem dL_waiting_10 : decode cL_waiting 10 = .ok (.goto 4, 3) := by decide +kernel
theorem dL_waiting_13 : decode cL_waiting 13 = .ok (.iconst 0, 1) := by decide +kernel
theorem dL_waiting_14 : decode cL_waiting 14 = .ok (.ireturn, 1) := by decide +kernel
theorem dL_waiting_15 : decode cL_waiting 15 = .ok (.astore_n 3, 1) := by decide +kernel
theorem dL_waiting_16 : decode cL_waiting 16 = .ok (.sipush (-1001), 3) := by decide +kernel
theorem dL_waiting_19 : decode cL_waiting 19 = .ok (.ireturn, 1) := by decide +kernel
theorem dL_pass_0 : decode cL_pass 0 = .ok (.aload_n 0, 1) := by decide +kernel
theorem dL_pass_1 : decode cL_pass 1 = .ok (.iload_n 1, 1) := by decide +kernel
theorem dL_pass_2 : decode cL_pass 2 = .ok (.invokevirtual 71, 3) := by decide +kernel
theorem dL_pass_5 : decode cL_pass 5 = .ok (.ireturn, 1) := by decide +kernel
theorem dL_pass_6 : decode cL_pass 6 = .ok (.astore_n 2, 1) := by decide +kernel
theorem dL_pass_7 : decode cL_pass 7 = .ok (.sipush (-1001), 3) := by decide +kernel
theorem dL_pass_10 : decode cL_pass 10 = .ok (.ireturn, 1) := by decide +kernel
theorem dL_at_0 : decode cL_at 0 = .ok (.iload_n 3, 1) := by decide +kernel
theorem dL_at_1 : decode cL_at 1 = .ok (.ifCond .ne 12, 3) := by decide +kernel
theorem dL_at_4 : decode cL_at 4 = .ok (.aload_n 0, 1) := by decide +kernel
theorem dL_at_5 : decode cL_at 5 = .ok (.iload_n 1, 1) := by decide +kernel
theorem dL_at_6 : decode cL_at 6 = .ok (.iload_n 2, 1) := by decide +kernel
theorem dL_at_7 : decode cL_at 7 = .ok (.invokevirtual 74, 3) := by decide +kernel
theorem dL_at_10 : decode cL_at 10 = .ok (.goto 73, 3) := by decide +kernel
theorem dL_at_13 : decode cL_at 13 = .ok (.iload_n 3, 1) := by decide +kernel
theorem dL_at_14 : decode cL_at 14 = .ok (.iconst 1, 1) := by decide +kernel
theorem dL_at_15 : decode cL_at 15 = .ok (.if_icmp .ne 12, 3) := by decide +kernel
theorem dL_at_18 : decode cL_at 18 = .ok (.aload_n 0, 1) := by decide +kernel
theorem dL_at_19 : decode cL_at 19 = .ok (.iload_n 1, 1) := by decide +kernel
theorem dL_at_20 : decode cL_at 20 = .ok (.iload_n 2, 1) := by decide +kernel
theorem dL_at_21 : decode cL_at 21 = .ok (.invokevirtual 78, 3) := by decide +kernel
theorem dL_at_24 : decode cL_at 24 = .ok (.goto 59, 3) := by decide +kernel
theorem dL_at_27 : decode cL_at 27 = .ok (.iload_n 3, 1) := by decide +kernel
theorem dL_at_28 : decode cL_at 28 = .ok (.iconst 2, 1) := by decide +kernel
theorem dL_at_29 : decode cL_at 29 = .ok (.if_icmp .ne 12, 3) := by decide +kernel
theorem dL_at_32 : decode cL_at 32 = .ok (.aload_n 0, 1) := by decide +kernel
theorem dL_at_33 : decode cL_at 33 = .ok (.iload_n 1, 1) := by decide +kernel
theorem dL_at_34 : decode cL_at 34 = .ok (.iload_n 2, 1) := by decide +kernel
theorem dL_at_35 : decode cL_at 35 = .ok (.invokevirtual 81, 3) := by decide +kernel
theorem dL_at_38 : decode cL_at 38 = .ok (.goto 45, 3) := by decide +kernel
theorem dL_at_41 : decode cL_at 41 = .ok (.iload_n 3, 1) := by decide +kernel
theorem dL_at_42 : decode cL_at 42 = .ok (.iconst 3, 1) := by decide +kernel
theorem dL_at_43 : decode cL_at 43 = .ok (.if_icmp .ne 12, 3) := by decide +kernel
theorem dL_at_46 : decode cL_at 46 = .ok (.aload_n 0, 1) := by decide +kernel
theorem dL_at_47 : decode cL_at 47 = .ok (.iload_n 1, 1) := by decide +kernel
theorem dL_at_48 : decode cL_at 48 = .ok (.iload_n 2, 1) := by decide +kernel
theorem dL_at_49 : decode cL_at 49 = .ok (.invokevirtual 84, 3) := by decide +kernel
theorem dL_at_52 : decode cL_at 52 = .ok (.goto 31, 3) := by decide +kernel
theorem dL_at_55 : decode cL_at 55 = .ok (.iload_n 3, 1) := by decide +kernel
theorem dL_at_56 : decode cL_at 56 = .ok (.iconst 4, 1) := by decide +kernel
theorem dL_at_57 : decode cL_at 57 = .ok (.if_icmp .ne 12, 3) := by decide +kernel
theorem dL_at_60 : decode cL_at 60 = .ok (.aload_n 0, 1) := by decide +kernel
theorem dL_at_61 : decode cL_at 61 = .ok (.iload_n 1, 1) := by decide +kernel
theorem dL_at_62 : decode cL_at 62 = .ok (.iload_n 2, 1) := by decide +kernel
theorem dL_at_63 : decode cL_at 63 = .ok (.invokevirtual 87, 3) := by decide +kernel
theorem dL_at_66 : decode cL_at 66 = .ok (.goto 17, 3) := by decide +kernel
theorem dL_at_69 : decode cL_at 69 = .ok (.aload_n 0, 1) := by decide +kernel
theorem dL_at_70 : decode cL_at 70 = .ok (.iload_n 1, 1) := by decide +kernel
theorem dL_at_71 : decode cL_at 71 = .ok (.iload_n 2, 1) := by decide +kernel
theorem dL_at_72 : decode cL_at 72 = .ok (.invokevirtual 90, 3) := by decide +kernel
theorem dL_at_75 : decode cL_at 75 = .ok (.ifCond .eq 7, 3) := by decide +kernel
theorem dL_at_78 : decode cL_at 78 = .ok (.iconst 1, 1) := by decide +kernel
theorem dL_at_79 : decode cL_at 79 = .ok (.goto 4, 3) := by decide +kernel
theorem dL_at_82 : decode cL_at 82 = .ok (.iconst 0, 1) := by decide +kernel
theorem dL_at_83 : decode cL_at 83 = .ok (.ireturn, 1) := by decide +kernel
theorem dL_at_84 : decode cL_at 84 = .ok (.astore 4, 2) := by decide +kernel
theorem dL_at_86 : decode cL_at 86 = .ok (.sipush (-1001), 3) := by decide +kernel
theorem dL_at_89 : decode cL_at 89 = .ok (.ireturn, 1) := by decide +kernel
theorem dL_holds_0 : decode cL_holds 0 = .ok (.aload_n 0, 1) := by decide +kernel
theorem dL_holds_1 : decode cL_holds 1 = .ok (.iload_n 1, 1) := by decide +kernel
theorem dL_holds_2 : decode cL_holds 2 = .ok (.iload_n 2, 1) := by decide +kernel
theorem dL_holds_3 : decode cL_holds 3 = .ok (.iload_n 3, 1) := by decide +kernel
theorem dL_holds_4 : decode cL_holds 4 = .ok (.iload 4, 2) := by decide +kernel
theorem dL_holds_6 : decode cL_holds 6 = .ok (.invokevirtual 94, 3) := by decide +kernel
theorem dL_holds_9 : decode cL_holds 9 = .ok (.ifCond .eq 7, 3) := by decide +kernel
theorem dL_holds_12 : decode cL_holds 12 = .ok (.iconst 1, 1) := by decide +kernel
theorem dL_holds_13 : decode cL_holds 13 = .ok (.goto 4, 3) := by decide +kernel
theorem dL_holds_16 : decode cL_holds 16 = .ok (.iconst 0, 1) := by decide +kernel
theorem dL_holds_17 : decode cL_holds 17 = .ok (.ireturn, 1) := by decide +kernel
theorem dL_holds_18 : decode cL_holds 18 = .ok (.astore 5, 2) := by decide +kernel
theorem dL_holds_20 : decode cL_holds 20 = .ok (.sipush (-1001), 3) := by decide +kernel
theorem dL_holds_23 : decode cL_holds 23 = .ok (.ireturn, 1) := by decide +kernel
theorem dL_holds_24 : decode cL_holds 24 = .ok (.astore 5, 2) := by decide +kernel
theorem dL_holds_26 : decode cL_holds 26 = .ok (.sipush (-1002), 3) := by decide +kernel
theorem dL_holds_29 : decode cL_holds 29 = .ok (.ireturn, 1) := by decide +kernel
theorem dL_case0_0 : decode cL_case0 0 = .ok (.iload_n 2, 1) := by decide +kernel
theorem dL_case0_1 : decode cL_case0 1 = .ok (.tableswitch 101 0 6 #[43, 49, 63, 69, 75, 81, 95], 43) := by decide +kernel
theorem dL_case0_44 : decode cL_case0 44 = .ok (.aload_n 0, 1) := by decide +kernel
theorem dL_case0_45 : decode cL_case0 45 = .ok (.iload_n 1, 1) := by decide +kernel
theorem dL_case0_46 : decode cL_case0 46 = .ok (.invokevirtual 100, 3) := by decide +kernel
theorem dL_case0_49 : decode cL_case0 49 = .ok (.ireturn, 1) := by decide +kernel
theorem dL_case0_50 : decode cL_case0 50 = .ok (.aload_n 0, 1) := by decide +kernel
theorem dL_case0_51 : decode cL_case0 51 = .ok (.iload_n 1, 1) := by decide +kernel
theorem dL_case0_52 : decode cL_case0 52 = .ok (.invokevirtual 103, 3) := by decide +kernel
theorem dL_case0_55 : decode cL_case0 55 = .ok (.ifCond .eq 7, 3) := by decide +kernel
theorem dL_case0_58 : decode cL_case0 58 = .ok (.iconst 1, 1) := by decide +kernel
theorem dL_case0_59 : decode cL_case0 59 = .ok (.goto 4, 3) := by decide +kernel
theorem dL_case0_62 : decode cL_case0 62 = .ok (.iconst 0, 1) := by decide +kernel
theorem dL_case0_63 : decode cL_case0 63 = .ok (.ireturn, 1) := by decide +kernel
theorem dL_case0_64 : decode cL_case0 64 = .ok (.aload_n 0, 1) := by decide +kernel
theorem dL_case0_65 : decode cL_case0 65 = .ok (.iload_n 1, 1) := by decide +kernel
theorem dL_case0_66 : decode cL_case0 66 = .ok (.invokevirtual 106, 3) := by decide +kernel
theorem dL_case0_69 : decode cL_case0 69 = .ok (.ireturn, 1) := by decide +kernel
theorem dL_case0_70 : decode cL_case0 70 = .ok (.aload_n 0, 1) := by decide +kernel
theorem dL_case0_71 : decode cL_case0 71 = .ok (.iload_n 1, 1) := by decide +kernel
theorem dL_case0_72 : decode cL_case0 72 = .ok (.invokevirtual 109, 3) := by decide +kernel
theorem dL_case0_75 : decode cL_case0 75 = .ok (.ireturn, 1) := by decide +kernel
theorem dL_case0_76 : decode cL_case0 76 = .ok (.aload_n 0, 1) := by decide +kernel
theorem dL_case0_77 : decode cL_case0 77 = .ok (.iload_n 1, 1) := by decide +kernel
theorem dL_case0_78 : decode cL_case0 78 = .ok (.invokevirtual 112, 3) := by decide +kernel
theorem dL_case0_81 : decode cL_case0 81 = .ok (.ireturn, 1) := by decide +kernel
theorem dL_case0_82 : decode cL_case0 82 = .ok (.aload_n 0, 1) := by decide +kernel
theorem dL_case0_83 : decode cL_case0 83 = .ok (.iload_n 1, 1) := by decide +kernel
theorem dL_case0_84 : decode cL_case0 84 = .ok (.invokevirtual 115, 3) := by decide +kernel
theorem dL_case0_87 : decode cL_case0 87 = .ok (.ifCond .eq 7, 3) := by decide +kernel
theorem dL_case0_90 : decode cL_case0 90 = .ok (.iconst 1, 1) := by decide +kernel
theorem dL_case0_91 : decode cL_case0 91 = .ok (.goto 4, 3) := by decide +kernel
theorem dL_case0_94 : decode cL_case0 94 = .ok (.iconst 0, 1) := by decide +kernel
theorem dL_case0_95 : decode cL_case0 95 = .ok (.ireturn, 1) := by decide +kernel
theorem dL_case0_96 : decode cL_case0 96 = .ok (.aload_n 0, 1) := by decide +kernel
theorem dL_case0_97 : decode cL_case0 97 = .ok (.iload_n 1, 1) := by decide +kernel
theorem dL_case0_98 : decode cL_case0 98 = .ok (.invokevirtual 118, 3) := by decide +kernel
theorem dL_case0_101 : decode cL_case0 101 = .ok (.ireturn, 1) := by decide +kernel
theorem dL_case0_102 : decode cL_case0 102 = .ok (.aload_n 0, 1) := by decide +kernel
theorem dL_case0_103 : decode cL_case0 103 = .ok (.iload_n 1, 1) := by decide +kernel
theorem dL_case0_104 : decode cL_case0 104 = .ok (.invokevirtual 121, 3) := by decide +kernel
theorem dL_case0_107 : decode cL_case0 107 = .ok (.ireturn, 1) := by decide +kernel
theorem dL_case0_108 : decode cL_case0 108 = .ok (.astore_n 3, 1) := by decide +kernel
theorem dL_case0_109 : decode cL_case0 109 = .ok (.sipush (-1001), 3) := by decide +kernel
theorem dL_case0_112 : decode cL_case0 112 = .ok (.ireturn, 1) := by decide +kernel
theorem dL_case0_113 : decode cL_case0 113 = .ok (.astore_n 3, 1) := by decide +kernel
theorem dL_case0_114 : decode cL_case0 114 = .ok (.sipush (-1002), 3) := by decide +kernel
theorem dL_case0_117 : decode cL_case0 117 = .ok (.ireturn, 1) := by decide +kernel
theorem dL_datum_0 : decode cL_datum 0 = .ok (.aload_n 0, 1) := by decide +kernel
theorem dL_datum_1 : decode cL_datum 1 = .ok (.iload_n 1, 1) := by decide +kernel
theorem dL_datum_2 : decode cL_datum 2 = .ok (.iload_n 2, 1) := by decide +kernel
theorem dL_datum_3 : decode cL_datum 3 = .ok (.invokevirtual 124, 3) := by decide +kernel
theorem dL_datum_6 : decode cL_datum 6 = .ok (.ireturn, 1) := by decide +kernel
theorem dL_datum_7 : decode cL_datum 7 = .ok (.astore_n 3, 1) := by decide +kernel
theorem dL_datum_8 : decode cL_datum 8 = .ok (.sipush (-1001), 3) := by decide +kernel
theorem dL_datum_11 : decode cL_datum 11 = .ok (.ireturn, 1) := by decide +kernel
theorem dL_datum_12 : decode cL_datum 12 = .ok (.astore_n 3, 1) := by decide +kernel
theorem dL_datum_13 : decode cL_datum 13 = .ok (.sipush (-1002), 3) := by decide +kernel
theorem dL_datum_16 : decode cL_datum 16 = .ok (.ireturn, 1) := by decide +kernel
theorem dL_share_0 : decode cL_share 0 = .ok (.aload_n 0, 1) := by decide +kernel
theorem dL_share_1 : decode cL_share 1 = .ok (.iload_n 1, 1) := by decide +kernel
theorem dL_share_2 : decode cL_share 2 = .ok (.invokevirtual 127, 3) := by decide +kernel
theorem dL_share_5 : decode cL_share 5 = .ok (.freturn, 1) := by decide +kernel
theorem dL_share_6 : decode cL_share 6 = .ok (.astore_n 2, 1) := by decide +kernel
theorem dL_share_7 : decode cL_share 7 = .ok (.ldc 131, 2) := by decide +kernel
theorem dL_share_9 : decode cL_share 9 = .ok (.freturn, 1) := by decide +kernel
theorem dL_plans_0 : decode cL_plans 0 = .ok (.iconst 0, 1) := by decide +kernel
theorem dL_plans_1 : decode cL_plans 1 = .ok (.istore_n 1, 1) := by decide +kernel
theorem dL_plans_2 : decode cL_plans 2 = .ok (.iload_n 1, 1) := by decide +kernel
theorem dL_plans_3 : decode cL_plans 3 = .ok (.iconst 3, 1) := by decide +kernel
theorem dL_plans_4 : decode cL_plans 4 = .ok (.if_icmp .ge 18, 3) := by decide +kernel
theorem dL_plans_7 : decode cL_plans 7 = .ok (.aload_n 0, 1) := by decide +kernel
theorem dL_plans_8 : decode cL_plans 8 = .ok (.iload_n 1, 1) := by decide +kernel
theorem dL_plans_9 : decode cL_plans 9 = .ok (.iconst 0, 1) := by decide +kernel
theorem dL_plans_10 : decode cL_plans 10 = .ok (.invokestatic 132, 3) := by decide +kernel
theorem dL_plans_13 : decode cL_plans 13 = .ok (.ifCond .lt 9, 3) := by decide +kernel
theorem dL_plans_16 : decode cL_plans 16 = .ok (.iinc 1 1, 3) := by decide +kernel
theorem dL_plans_19 : decode cL_plans 19 = .ok (.goto (-17), 3) := by decide +kernel
theorem dL_plans_22 : decode cL_plans 22 = .ok (.iload_n 1, 1) := by decide +kernel
theorem dL_plans_23 : decode cL_plans 23 = .ok (.ireturn, 1) := by decide +kernel
theorem dL_sum_0 : decode cL_sum 0 = .ok (.aload_n 0, 1) := by decide +kernel
theorem dL_sum_1 : decode cL_sum 1 = .ok (.invokevirtual 138, 3) := by decide +kernel
theorem dL_sum_4 : decode cL_sum 4 = .ok (.i2l, 1) := by decide +kernel
theorem dL_sum_5 : decode cL_sum 5 = .ok (.ldc2_w 141, 3) := by decide +kernel
theorem dL_sum_8 : decode cL_sum 8 = .ok (.aload_n 0, 1) := by decide +kernel
theorem dL_sum_9 : decode cL_sum 9 = .ok (.invokevirtual 143, 3) := by decide +kernel
theorem dL_sum_12 : decode cL_sum 12 = .ok (.lmul, 1) := by decide +kernel
theorem dL_sum_13 : decode cL_sum 13 = .ok (.ladd, 1) := by decide +kernel
theorem dL_sum_14 : decode cL_sum 14 = .ok (.lstore_n 1, 1) := by decide +kernel
theorem dL_sum_15 : decode cL_sum 15 = .ok (.iconst 0, 1) := by decide +kernel
theorem dL_sum_16 : decode cL_sum 16 = .ok (.istore_n 3, 1) := by decide +kernel
theorem dL_sum_17 : decode cL_sum 17 = .ok (.iload_n 3, 1) := by decide +kernel
theorem dL_sum_18 : decode cL_sum 18 = .ok (.iconst 3, 1) := by decide +kernel
theorem dL_sum_19 : decode cL_sum 19 = .ok (.if_icmp .ge 35, 3) := by decide +kernel
theorem dL_sum_22 : decode cL_sum 22 = .ok (.ldc2_w 141, 3) := by decide +kernel
theorem dL_sum_25 : decode cL_sum 25 = .ok (.lload_n 1, 1) := by decide +kernel
theorem dL_sum_26 : decode cL_sum 26 = .ok (.lmul, 1) := by decide +kernel
theorem dL_sum_27 : decode cL_sum 27 = .ok (.aload_n 0, 1) := by decide +kernel
theorem dL_sum_28 : decode cL_sum 28 = .ok (.iload_n 3, 1) := by decide +kernel
theorem dL_sum_29 : decode cL_sum 29 = .ok (.iconst 0, 1) := by decide +kernel
theorem dL_sum_30 : decode cL_sum 30 = .ok (.invokestatic 132, 3) := by decide +kernel
theorem dL_sum_33 : decode cL_sum 33 = .ok (.i2l, 1) := by decide +kernel
theorem dL_sum_34 : decode cL_sum 34 = .ok (.ladd, 1) := by decide +kernel
theorem dL_sum_35 : decode cL_sum 35 = .ok (.ldc2_w 147, 3) := by decide +kernel
theorem dL_sum_38 : decode cL_sum 38 = .ok (.aload_n 0, 1) := by decide +kernel
theorem dL_sum_39 : decode cL_sum 39 = .ok (.iload_n 3, 1) := by decide +kernel
theorem dL_sum_40 : decode cL_sum 40 = .ok (.iconst 1, 1) := by decide +kernel
theorem dL_sum_41 : decode cL_sum 41 = .ok (.invokestatic 132, 3) := by decide +kernel
theorem dL_sum_44 : decode cL_sum 44 = .ok (.i2l, 1) := by decide +kernel
theorem dL_sum_45 : decode cL_sum 45 = .ok (.lmul, 1) := by decide +kernel
theorem dL_sum_46 : decode cL_sum 46 = .ok (.ladd, 1) := by decide +kernel
theorem dL_sum_47 : decode cL_sum 47 = .ok (.lstore_n 1, 1) := by decide +kernel
theorem dL_sum_48 : decode cL_sum 48 = .ok (.iinc 3 1, 3) := by decide +kernel
theorem dL_sum_51 : decode cL_sum 51 = .ok (.goto (-34), 3) := by decide +kernel
theorem dL_sum_54 : decode cL_sum 54 = .ok (.iconst 0, 1) := by decide +kernel
theorem dL_sum_55 : decode cL_sum 55 = .ok (.istore_n 3, 1) := by decide +kernel
theorem dL_sum_56 : decode cL_sum 56 = .ok (.iload_n 3, 1) := by decide +kernel
theorem dL_sum_57 : decode cL_sum 57 = .ok (.aload_n 0, 1) := by decide +kernel
theorem dL_sum_58 : decode cL_sum 58 = .ok (.invokevirtual 138, 3) := by decide +kernel
theorem dL_sum_61 : decode cL_sum 61 = .ok (.if_icmp .ge 130, 3) := by decide +kernel
theorem dL_sum_64 : decode cL_sum 64 = .ok (.iconst 0, 1) := by decide +kernel
theorem dL_sum_65 : decode cL_sum 65 = .ok (.istore 4, 2) := by decide +kernel
theorem dL_sum_67 : decode cL_sum 67 = .ok (.iload 4, 2) := by decide +kernel
theorem dL_sum_69 : decode cL_sum 69 = .ok (.bipush 7, 2) := by decide +kernel
theorem dL_sum_71 : decode cL_sum 71 = .ok (.if_icmp .ge 24, 3) := by decide +kernel
theorem dL_sum_74 : decode cL_sum 74 = .ok (.ldc2_w 141, 3) := by decide +kernel
theorem dL_sum_77 : decode cL_sum 77 = .ok (.lload_n 1, 1) := by decide +kernel
theorem dL_sum_78 : decode cL_sum 78 = .ok (.lmul, 1) := by decide +kernel
theorem dL_sum_79 : decode cL_sum 79 = .ok (.aload_n 0, 1) := by decide +kernel
theorem dL_sum_80 : decode cL_sum 80 = .ok (.iload_n 3, 1) := by decide +kernel
theorem dL_sum_81 : decode cL_sum 81 = .ok (.iload 4, 2) := by decide +kernel
theorem dL_sum_83 : decode cL_sum 83 = .ok (.invokestatic 149, 3) := by decide +kernel
theorem dL_sum_86 : decode cL_sum 86 = .ok (.i2l, 1) := by decide +kernel
theorem dL_sum_87 : decode cL_sum 87 = .ok (.ladd, 1) := by decide +kernel
theorem dL_sum_88 : decode cL_sum 88 = .ok (.lstore_n 1, 1) := by decide +kernel
theorem dL_sum_89 : decode cL_sum 89 = .ok (.iinc 4 1, 3) := by decide +kernel
theorem dL_sum_92 : decode cL_sum 92 = .ok (.goto (-25), 3) := by decide +kernel
theorem dL_sum_95 : decode cL_sum 95 = .ok (.iconst 0, 1) := by decide +kernel
theorem dL_sum_96 : decode cL_sum 96 = .ok (.istore 4, 2) := by decide +kernel
theorem dL_sum_98 : decode cL_sum 98 = .ok (.iload 4, 2) := by decide +kernel
theorem dL_sum_100 : decode cL_sum 100 = .ok (.iconst 4, 1) := by decide +kernel
theorem dL_sum_101 : decode cL_sum 101 = .ok (.if_icmp .ge 24, 3) := by decide +kernel
theorem dL_sum_104 : decode cL_sum 104 = .ok (.ldc2_w 141, 3) := by decide +kernel
theorem dL_sum_107 : decode cL_sum 107 = .ok (.lload_n 1, 1) := by decide +kernel
theorem dL_sum_108 : decode cL_sum 108 = .ok (.lmul, 1) := by decide +kernel
theorem dL_sum_109 : decode cL_sum 109 = .ok (.aload_n 0, 1) := by decide +kernel
theorem dL_sum_110 : decode cL_sum 110 = .ok (.iload_n 3, 1) := by decide +kernel
theorem dL_sum_111 : decode cL_sum 111 = .ok (.iload 4, 2) := by decide +kernel
theorem dL_sum_113 : decode cL_sum 113 = .ok (.invokestatic 153, 3) := by decide +kernel
theorem dL_sum_116 : decode cL_sum 116 = .ok (.i2l, 1) := by decide +kernel
theorem dL_sum_117 : decode cL_sum 117 = .ok (.ladd, 1) := by decide +kernel
theorem dL_sum_118 : decode cL_sum 118 = .ok (.lstore_n 1, 1) := by decide +kernel
theorem dL_sum_119 : decode cL_sum 119 = .ok (.iinc 4 1, 3) := by decide +kernel
theorem dL_sum_122 : decode cL_sum 122 = .ok (.goto (-24), 3) := by decide +kernel
theorem dL_sum_125 : decode cL_sum 125 = .ok (.iconst 0, 1) := by decide +kernel
theorem dL_sum_126 : decode cL_sum 126 = .ok (.istore 4, 2) := by decide +kernel
theorem dL_sum_128 : decode cL_sum 128 = .ok (.iload 4, 2) := by decide +kernel
theorem dL_sum_130 : decode cL_sum 130 = .ok (.bipush 8, 2) := by decide +kernel
theorem dL_sum_132 : decode cL_sum 132 = .ok (.if_icmp .ge 53, 3) := by decide +kernel
theorem dL_sum_135 : decode cL_sum 135 = .ok (.ldc2_w 141, 3) := by decide +kernel
theorem dL_sum_138 : decode cL_sum 138 = .ok (.lload_n 1, 1) := by decide +kernel
theorem dL_sum_139 : decode cL_sum 139 = .ok (.lmul, 1) := by decide +kernel
theorem dL_sum_140 : decode cL_sum 140 = .ok (.aload_n 0, 1) := by decide +kernel
theorem dL_sum_141 : decode cL_sum 141 = .ok (.iload_n 3, 1) := by decide +kernel
theorem dL_sum_142 : decode cL_sum 142 = .ok (.iload 4, 2) := by decide +kernel
theorem dL_sum_144 : decode cL_sum 144 = .ok (.iconst 0, 1) := by decide +kernel
theorem dL_sum_145 : decode cL_sum 145 = .ok (.invokestatic 155, 3) := by decide +kernel
theorem dL_sum_148 : decode cL_sum 148 = .ok (.i2l, 1) := by decide +kernel
theorem dL_sum_149 : decode cL_sum 149 = .ok (.ladd, 1) := by decide +kernel
theorem dL_sum_150 : decode cL_sum 150 = .ok (.ldc2_w 147, 3) := by decide +kernel
theorem dL_sum_153 : decode cL_sum 153 = .ok (.aload_n 0, 1) := by decide +kernel
theorem dL_sum_154 : decode cL_sum 154 = .ok (.iload_n 3, 1) := by decide +kernel
theorem dL_sum_155 : decode cL_sum 155 = .ok (.iload 4, 2) := by decide +kernel
theorem dL_sum_157 : decode cL_sum 157 = .ok (.iconst 2, 1) := by decide +kernel
theorem dL_sum_158 : decode cL_sum 158 = .ok (.invokestatic 155, 3) := by decide +kernel
theorem dL_sum_161 : decode cL_sum 161 = .ok (.i2l, 1) := by decide +kernel
theorem dL_sum_162 : decode cL_sum 162 = .ok (.lmul, 1) := by decide +kernel
theorem dL_sum_163 : decode cL_sum 163 = .ok (.ladd, 1) := by decide +kernel
theorem dL_sum_164 : decode cL_sum 164 = .ok (.ldc2_w 159, 3) := by decide +kernel
theorem dL_sum_167 : decode cL_sum 167 = .ok (.aload_n 0, 1) := by decide +kernel
theorem dL_sum_168 : decode cL_sum 168 = .ok (.iload_n 3, 1) := by decide +kernel
theorem dL_sum_169 : decode cL_sum 169 = .ok (.iload 4, 2) := by decide +kernel
theorem dL_sum_171 : decode cL_sum 171 = .ok (.iconst 4, 1) := by decide +kernel
theorem dL_sum_172 : decode cL_sum 172 = .ok (.invokestatic 155, 3) := by decide +kernel
theorem dL_sum_175 : decode cL_sum 175 = .ok (.i2l, 1) := by decide +kernel
theorem dL_sum_176 : decode cL_sum 176 = .ok (.lmul, 1) := by decide +kernel
theorem dL_sum_177 : decode cL_sum 177 = .ok (.ladd, 1) := by decide +kernel
theorem dL_sum_178 : decode cL_sum 178 = .ok (.lstore_n 1, 1) := by decide +kernel
theorem dL_sum_179 : decode cL_sum 179 = .ok (.iinc 4 1, 3) := by decide +kernel
theorem dL_sum_182 : decode cL_sum 182 = .ok (.goto (-54), 3) := by decide +kernel
theorem dL_sum_185 : decode cL_sum 185 = .ok (.iinc 3 1, 3) := by decide +kernel
theorem dL_sum_188 : decode cL_sum 188 = .ok (.goto (-132), 3) := by decide +kernel
theorem dL_sum_191 : decode cL_sum 191 = .ok (.lload_n 1, 1) := by decide +kernel
theorem dL_sum_192 : decode cL_sum 192 = .ok (.lreturn, 1) := by decide +kernel
theorem dL_isSound_0 : decode cL_isSound 0 = .ok (.lconst 0, 1) := by decide +kernel
theorem dL_isSound_1 : decode cL_isSound 1 = .ok (.lstore_n 1, 1) := by decide +kernel
theorem dL_isSound_2 : decode cL_isSound 2 = .ok (.iconst 0, 1) := by decide +kernel
theorem dL_isSound_3 : decode cL_isSound 3 = .ok (.istore_n 3, 1) := by decide +kernel
theorem dL_isSound_4 : decode cL_isSound 4 = .ok (.iload_n 3, 1) := by decide +kernel
theorem dL_isSound_5 : decode cL_isSound 5 = .ok (.aload_n 0, 1) := by decide +kernel
theorem dL_isSound_6 : decode cL_isSound 6 = .ok (.invokevirtual 138, 3) := by decide +kernel
theorem dL_isSound_9 : decode cL_isSound 9 = .ok (.if_icmp .ge 282, 3) := by decide +kernel
theorem dL_isSound_12 : decode cL_isSound 12 = .ok (.iconst 0, 1) := by decide +kernel
theorem dL_isSound_13 : decode cL_isSound 13 = .ok (.istore 4, 2) := by decide +kernel
theorem dL_isSound_15 : decode cL_isSound 15 = .ok (.iconst 0, 1) := by decide +kernel
theorem dL_isSound_16 : decode cL_isSound 16 = .ok (.istore 5, 2) := by decide +kernel
theorem dL_isSound_18 : decode cL_isSound 18 = .ok (.aload_n 0, 1) := by decide +kernel
theorem dL_isSound_19 : decode cL_isSound 19 = .ok (.aload_n 0, 1) := by decide +kernel
theorem dL_isSound_20 : decode cL_isSound 20 = .ok (.iload_n 3, 1) := by decide +kernel
theorem dL_isSound_21 : decode cL_isSound 21 = .ok (.iconst 4, 1) := by decide +kernel
theorem dL_isSound_22 : decode cL_isSound 22 = .ok (.invokestatic 149, 3) := by decide +kernel
theorem dL_isSound_25 : decode cL_isSound 25 = .ok (.iconst 0, 1) := by decide +kernel
theorem dL_isSound_26 : decode cL_isSound 26 = .ok (.invokestatic 132, 3) := by decide +kernel
theorem dL_isSound_29 : decode cL_isSound 29 = .ok (.istore 6, 2) := by decide +kernel
theorem dL_isSound_31 : decode cL_isSound 31 = .ok (.iconst 0, 1) := by decide +kernel
theorem dL_isSound_32 : decode cL_isSound 32 = .ok (.istore 7, 2) := by decide +kernel
theorem dL_isSound_34 : decode cL_isSound 34 = .ok (.iload 7, 2) := by decide +kernel
theorem dL_isSound_36 : decode cL_isSound 36 = .ok (.iload 6, 2) := by decide +kernel
theorem dL_isSound_38 : decode cL_isSound 38 = .ok (.if_icmp .ge 172, 3) := by decide +kernel
theorem dL_isSound_41 : decode cL_isSound 41 = .ok (.aload_n 0, 1) := by decide +kernel
theorem dL_isSound_42 : decode cL_isSound 42 = .ok (.iload_n 3, 1) := by decide +kernel
theorem dL_isSound_43 : decode cL_isSound 43 = .ok (.iload 7, 2) := by decide +kernel
theorem dL_isSound_45 : decode cL_isSound 45 = .ok (.iconst 0, 1) := by decide +kernel
theorem dL_isSound_46 : decode cL_isSound 46 = .ok (.invokestatic 155, 3) := by decide +kernel
theorem dL_isSound_49 : decode cL_isSound 49 = .ok (.istore 8, 2) := by decide +kernel
theorem dL_isSound_51 : decode cL_isSound 51 = .ok (.iload 8, 2) := by decide +kernel
theorem dL_isSound_53 : decode cL_isSound 53 = .ok (.aload_n 0, 1) := by decide +kernel
theorem dL_isSound_54 : decode cL_isSound 54 = .ok (.iload_n 3, 1) := by decide +kernel
theorem dL_isSound_55 : decode cL_isSound 55 = .ok (.iload 7, 2) := by decide +kernel
theorem dL_isSound_57 : decode cL_isSound 57 = .ok (.iconst 1, 1) := by decide +kernel
theorem dL_isSound_58 : decode cL_isSound 58 = .ok (.invokestatic 155, 3) := by decide +kernel
theorem dL_isSound_61 : decode cL_isSound 61 = .ok (.if_icmp .ne 95, 3) := by decide +kernel
theorem dL_isSound_64 : decode cL_isSound 64 = .ok (.aload_n 0, 1) := by decide +kernel
theorem dL_isSound_65 : decode cL_isSound 65 = .ok (.iload_n 3, 1) := by decide +kernel
theorem dL_isSound_66 : decode cL_isSound 66 = .ok (.iload 7, 2) := by decide +kernel
theorem dL_isSound_68 : decode cL_isSound 68 = .ok (.iconst 2, 1) := by decide +kernel
theorem dL_isSound_69 : decode cL_isSound 69 = .ok (.invokestatic 155, 3) := by decide +kernel
theorem dL_isSound_72 : decode cL_isSound 72 = .ok (.aload_n 0, 1) := by decide +kernel
theorem dL_isSound_73 : decode cL_isSound 73 = .ok (.iload_n 3, 1) := by decide +kernel
theorem dL_isSound_74 : decode cL_isSound 74 = .ok (.iload 7, 2) := by decide +kernel
theorem dL_isSound_76 : decode cL_isSound 76 = .ok (.iconst 3, 1) := by decide +kernel
theorem dL_isSound_77 : decode cL_isSound 77 = .ok (.invokestatic 155, 3) := by decide +kernel
theorem dL_isSound_80 : decode cL_isSound 80 = .ok (.if_icmp .ne 76, 3) := by decide +kernel
theorem dL_isSound_83 : decode cL_isSound 83 = .ok (.iload 8, 2) := by decide +kernel
theorem dL_isSound_85 : decode cL_isSound 85 = .ok (.bipush 105, 2) := by decide +kernel
theorem dL_isSound_87 : decode cL_isSound 87 = .ok (.if_icmp .eq 24, 3) := by decide +kernel
theorem dL_isSound_90 : decode cL_isSound 90 = .ok (.iload 8, 2) := by decide +kernel
theorem dL_isSound_92 : decode cL_isSound 92 = .ok (.bipush 97, 2) := by decide +kernel
theorem dL_isSound_94 : decode cL_isSound 94 = .ok (.if_icmp .eq 17, 3) := by decide +kernel
theorem dL_isSound_97 : decode cL_isSound 97 = .ok (.iload 8, 2) := by decide +kernel
theorem dL_isSound_99 : decode cL_isSound 99 = .ok (.bipush 99, 2) := by decide +kernel
theorem dL_isSound_101 : decode cL_isSound 101 = .ok (.if_icmp .eq 10, 3) := by decide +kernel
theorem dL_isSound_104 : decode cL_isSound 104 = .ok (.iload 8, 2) := by decide +kernel
theorem dL_isSound_106 : decode cL_isSound 106 = .ok (.bipush 120, 2) := by decide +kernel
theorem dL_isSound_108 : decode cL_isSound 108 = .ok (.if_icmp .ne 48, 3) := by decide +kernel
theorem dL_isSound_111 : decode cL_isSound 111 = .ok (.iload 8, 2) := by decide +kernel
theorem dL_isSound_113 : decode cL_isSound 113 = .ok (.bipush 97, 2) := by decide +kernel
theorem dL_isSound_115 : decode cL_isSound 115 = .ok (.if_icmp .eq 10, 3) := by decide +kernel
theorem dL_isSound_118 : decode cL_isSound 118 = .ok (.iload 8, 2) := by decide +kernel
theorem dL_isSound_120 : decode cL_isSound 120 = .ok (.bipush 99, 2) := by decide +kernel
theorem dL_isSound_122 : decode cL_isSound 122 = .ok (.if_icmp .ne 15, 3) := by decide +kernel
theorem dL_isSound_125 : decode cL_isSound 125 = .ok (.aload_n 0, 1) := by decide +kernel
theorem dL_isSound_126 : decode cL_isSound 126 = .ok (.iload_n 3, 1) := by decide +kernel
theorem dL_isSound_127 : decode cL_isSound 127 = .ok (.iload 7, 2) := by decide +kernel
theorem dL_isSound_129 : decode cL_isSound 129 = .ok (.iconst 4, 1) := by decide +kernel
theorem dL_isSound_130 : decode cL_isSound 130 = .ok (.invokestatic 155, 3) := by decide +kernel
theorem dL_isSound_133 : decode cL_isSound 133 = .ok (.iconst 1, 1) := by decide +kernel
theorem dL_isSound_134 : decode cL_isSound 134 = .ok (.if_icmp .lt 22, 3) := by decide +kernel
theorem dL_isSound_137 : decode cL_isSound 137 = .ok (.aload_n 0, 1) := by decide +kernel
theorem dL_isSound_138 : decode cL_isSound 138 = .ok (.iload_n 3, 1) := by decide +kernel
theorem dL_isSound_139 : decode cL_isSound 139 = .ok (.iload 7, 2) := by decide +kernel
theorem dL_isSound_141 : decode cL_isSound 141 = .ok (.iconst 5, 1) := by decide +kernel
theorem dL_isSound_142 : decode cL_isSound 142 = .ok (.invokestatic 155, 3) := by decide +kernel
theorem dL_isSound_145 : decode cL_isSound 145 = .ok (.iconst 1, 1) := by decide +kernel
theorem dL_isSound_146 : decode cL_isSound 146 = .ok (.if_icmp .ne 12, 3) := by decide +kernel
theorem dL_isSound_149 : decode cL_isSound 149 = .ok (.iload 8, 2) := by decide +kernel
theorem dL_isSound_151 : decode cL_isSound 151 = .ok (.bipush 97, 2) := by decide +kernel
theorem dL_isSound_153 : decode cL_isSound 153 = .ok (.if_icmp .eq 5, 3) := by decide +kernel
theorem dL_isSound_156 : decode cL_isSound 156 = .ok (.iconst 0, 1) := by decide +kernel
theorem dL_isSound_157 : decode cL_isSound 157 = .ok (.ireturn, 1) := by decide +kernel
theorem dL_isSound_158 : decode cL_isSound 158 = .ok (.iload 4, 2) := by decide +kernel
theorem dL_isSound_160 : decode cL_isSound 160 = .ok (.iload 8, 2) := by decide +kernel
theorem dL_isSound_162 : decode cL_isSound 162 = .ok (.bipush 97, 2) := by decide +kernel
theorem dL_isSound_164 : decode cL_isSound 164 = .ok (.if_icmp .ne 7, 3) := by decide +kernel
theorem dL_isSound_167 : decode cL_isSound 167 = .ok (.iconst 1, 1) := by decide +kernel
theorem dL_isSound_168 : decode cL_isSound 168 = .ok (.goto 4, 3) := by decide +kernel
theorem dL_isSound_171 : decode cL_isSound 171 = .ok (.iconst 0, 1) := by decide +kernel
theorem dL_isSound_172 : decode cL_isSound 172 = .ok (.iadd, 1) := by decide +kernel
theorem dL_isSound_173 : decode cL_isSound 173 = .ok (.istore 4, 2) := by decide +kernel
theorem dL_isSound_175 : decode cL_isSound 175 = .ok (.iload 5, 2) := by decide +kernel
theorem dL_isSound_177 : decode cL_isSound 177 = .ok (.iload 8, 2) := by decide +kernel
theorem dL_isSound_179 : decode cL_isSound 179 = .ok (.bipush 99, 2) := by decide +kernel
theorem dL_isSound_181 : decode cL_isSound 181 = .ok (.if_icmp .ne 7, 3) := by decide +kernel
theorem dL_isSound_184 : decode cL_isSound 184 = .ok (.iconst 1, 1) := by decide +kernel
theorem dL_isSound_185 : decode cL_isSound 185 = .ok (.goto 4, 3) := by decide +kernel
theorem dL_isSound_188 : decode cL_isSound 188 = .ok (.iconst 0, 1) := by decide +kernel
theorem dL_isSound_189 : decode cL_isSound 189 = .ok (.iadd, 1) := by decide +kernel
theorem dL_isSound_190 : decode cL_isSound 190 = .ok (.istore 5, 2) := by decide +kernel
theorem dL_isSound_192 : decode cL_isSound 192 = .ok (.lload_n 1, 1) := by decide +kernel
theorem dL_isSound_193 : decode cL_isSound 193 = .ok (.aload_n 0, 1) := by decide +kernel
theorem dL_isSound_194 : decode cL_isSound 194 = .ok (.iload_n 3, 1) := by decide +kernel
theorem dL_isSound_195 : decode cL_isSound 195 = .ok (.iload 7, 2) := by decide +kernel
theorem dL_isSound_197 : decode cL_isSound 197 = .ok (.iconst 2, 1) := by decide +kernel
theorem dL_isSound_198 : decode cL_isSound 198 = .ok (.invokestatic 155, 3) := by decide +kernel
theorem dL_isSound_201 : decode cL_isSound 201 = .ok (.i2l, 1) := by decide +kernel
theorem dL_isSound_202 : decode cL_isSound 202 = .ok (.ladd, 1) := by decide +kernel
theorem dL_isSound_203 : decode cL_isSound 203 = .ok (.lstore_n 1, 1) := by decide +kernel
theorem dL_isSound_204 : decode cL_isSound 204 = .ok (.iinc 7 1, 3) := by decide +kernel
theorem dL_isSound_207 : decode cL_isSound 207 = .ok (.goto (-173), 3) := by decide +kernel
theorem dL_isSound_210 : decode cL_isSound 210 = .ok (.aload_n 0, 1) := by decide +kernel
theorem dL_isSound_211 : decode cL_isSound 211 = .ok (.iload_n 3, 1) := by decide +kernel
theorem dL_isSound_212 : decode cL_isSound 212 = .ok (.iconst 0, 1) := by decide +kernel
theorem dL_isSound_213 : decode cL_isSound 213 = .ok (.invokestatic 149, 3) := by decide +kernel
theorem dL_isSound_216 : decode cL_isSound 216 = .ok (.iload 4, 2) := by decide +kernel
theorem dL_isSound_218 : decode cL_isSound 218 = .ok (.if_icmp .ne 65, 3) := by decide +kernel
theorem dL_isSound_221 : decode cL_isSound 221 = .ok (.aload_n 0, 1) := by decide +kernel
theorem dL_isSound_222 : decode cL_isSound 222 = .ok (.iload_n 3, 1) := by decide +kernel
theorem dL_isSound_223 : decode cL_isSound 223 = .ok (.invokestatic 161, 3) := by decide +kernel
theorem dL_isSound_226 : decode cL_isSound 226 = .ok (.iload 5, 2) := by decide +kernel
theorem dL_isSound_228 : decode cL_isSound 228 = .ok (.i2f, 1) := by decide +kernel
theorem dL_isSound_229 : decode cL_isSound 229 = .ok (.iload 6, 2) := by decide +kernel
theorem dL_isSound_231 : decode cL_isSound 231 = .ok (.i2f, 1) := by decide +kernel
theorem dL_isSound_232 : decode cL_isSound 232 = .ok (.fdiv, 1) := by decide +kernel
theorem dL_isSound_233 : decode cL_isSound 233 = .ok (.fcmp .l, 1) := by decide +kernel
theorem dL_isSound_234 : decode cL_isSound 234 = .ok (.ifCond .ne 49, 3) := by decide +kernel
theorem dL_isSound_237 : decode cL_isSound 237 = .ok (.aload_n 0, 1) := by decide +kernel
theorem dL_isSound_238 : decode cL_isSound 238 = .ok (.iload_n 3, 1) := by decide +kernel
theorem dL_isSound_239 : decode cL_isSound 239 = .ok (.iconst 2, 1) := by decide +kernel
theorem dL_isSound_240 : decode cL_isSound 240 = .ok (.invokestatic 149, 3) := by decide +kernel
theorem dL_isSound_243 : decode cL_isSound 243 = .ok (.ifCond .lt 40, 3) := by decide +kernel
theorem dL_isSound_246 : decode cL_isSound 246 = .ok (.aload_n 0, 1) := by decide +kernel
theorem dL_isSound_247 : decode cL_isSound 247 = .ok (.iload_n 3, 1) := by decide +kernel
theorem dL_isSound_248 : decode cL_isSound 248 = .ok (.iconst 2, 1) := by decide +kernel
theorem dL_isSound_249 : decode cL_isSound 249 = .ok (.invokestatic 149, 3) := by decide +kernel
theorem dL_isSound_252 : decode cL_isSound 252 = .ok (.bipush 20, 2) := by decide +kernel
theorem dL_isSound_254 : decode cL_isSound 254 = .ok (.if_icmp .gt 29, 3) := by decide +kernel
theorem dL_isSound_257 : decode cL_isSound 257 = .ok (.aload_n 0, 1) := by decide +kernel
theorem dL_isSound_258 : decode cL_isSound 258 = .ok (.iload_n 3, 1) := by decide +kernel
theorem dL_isSound_259 : decode cL_isSound 259 = .ok (.bipush 6, 2) := by decide +kernel
theorem dL_isSound_261 : decode cL_isSound 261 = .ok (.invokestatic 149, 3) := by decide +kernel
theorem dL_isSound_264 : decode cL_isSound 264 = .ok (.aload_n 0, 1) := by decide +kernel
theorem dL_isSound_265 : decode cL_isSound 265 = .ok (.iload_n 3, 1) := by decide +kernel
theorem dL_isSound_266 : decode cL_isSound 266 = .ok (.iconst 3, 1) := by decide +kernel
theorem dL_isSound_267 : decode cL_isSound 267 = .ok (.invokestatic 149, 3) := by decide +kernel
theorem dL_isSound_270 : decode cL_isSound 270 = .ok (.if_icmp .le 13, 3) := by decide +kernel
theorem dL_isSound_273 : decode cL_isSound 273 = .ok (.aload_n 0, 1) := by decide +kernel
theorem dL_isSound_274 : decode cL_isSound 274 = .ok (.iload_n 3, 1) := by decide +kernel
theorem dL_isSound_275 : decode cL_isSound 275 = .ok (.bipush 7, 2) := by decide +kernel
theorem dL_isSound_277 : decode cL_isSound 277 = .ok (.invokestatic 149, 3) := by decide +kernel
theorem dL_isSound_280 : decode cL_isSound 280 = .ok (.ifCond .ne 5, 3) := by decide +kernel
theorem dL_isSound_283 : decode cL_isSound 283 = .ok (.iconst 0, 1) := by decide +kernel
theorem dL_isSound_284 : decode cL_isSound 284 = .ok (.ireturn, 1) := by decide +kernel
theorem dL_isSound_285 : decode cL_isSound 285 = .ok (.iinc 3 1, 3) := by decide +kernel
theorem dL_isSound_288 : decode cL_isSound 288 = .ok (.goto (-284), 3) := by decide +kernel
theorem dL_isSound_291 : decode cL_isSound 291 = .ok (.lload_n 1, 1) := by decide +kernel
theorem dL_isSound_292 : decode cL_isSound 292 = .ok (.aload_n 0, 1) := by decide +kernel
theorem dL_isSound_293 : decode cL_isSound 293 = .ok (.invokevirtual 143, 3) := by decide +kernel
theorem dL_isSound_296 : decode cL_isSound 296 = .ok (.lcmp, 1) := by decide +kernel
theorem dL_isSound_297 : decode cL_isSound 297 = .ok (.ifCond .ne 7, 3) := by decide +kernel
theorem dL_isSound_300 : decode cL_isSound 300 = .ok (.iconst 1, 1) := by decide +kernel
theorem dL_isSound_301 : decode cL_isSound 301 = .ok (.goto 4, 3) := by decide +kernel
theorem dL_isSound_304 : decode cL_isSound 304 = .ok (.iconst 0, 1) := by decide +kernel
theorem dL_isSound_305 : decode cL_isSound 305 = .ok (.ireturn, 1) := by decide +kernel
