theorem dX0_init_0 : decode cX0_init 0 = .ok (.aload_n 0, 1) := by decide +kernel
theorem dX0_init_1 : decode cX0_init 1 = .ok (.invokespecial 3, 3) := by decide +kernel
theorem dX0_init_4 : decode cX0_init 4 = .ok (.aload_n 0, 1) := by decide +kernel
theorem dX0_init_5 : decode cX0_init 5 = .ok (.iconst 4, 1) := by decide +kernel
theorem dX0_init_6 : decode cX0_init 6 = .ok (.newarray .int, 2) := by decide +kernel
theorem dX0_init_8 : decode cX0_init 8 = .ok (.putfield 9, 3) := by decide +kernel
theorem dX0_init_11 : decode cX0_init 11 = .ok (.aload_n 0, 1) := by decide +kernel
theorem dX0_init_12 : decode cX0_init 12 = .ok (.bipush 8, 2) := by decide +kernel
theorem dX0_init_14 : decode cX0_init 14 = .ok (.newarray .char, 2) := by decide +kernel
theorem dX0_init_16 : decode cX0_init 16 = .ok (.putfield 15, 3) := by decide +kernel
theorem dX0_init_19 : decode cX0_init 19 = .ok (.aload_n 0, 1) := by decide +kernel
theorem dX0_init_20 : decode cX0_init 20 = .ok (.bipush 8, 2) := by decide +kernel
theorem dX0_init_22 : decode cX0_init 22 = .ok (.newarray .char, 2) := by decide +kernel
theorem dX0_init_24 : decode cX0_init 24 = .ok (.putfield 19, 3) := by decide +kernel
theorem dX0_init_27 : decode cX0_init 27 = .ok (.aload_n 0, 1) := by decide +kernel
theorem dX0_init_28 : decode cX0_init 28 = .ok (.bipush 8, 2) := by decide +kernel
theorem dX0_init_30 : decode cX0_init 30 = .ok (.newarray .int, 2) := by decide +kernel
theorem dX0_init_32 : decode cX0_init 32 = .ok (.putfield 22, 3) := by decide +kernel
theorem dX0_init_35 : decode cX0_init 35 = .ok (.aload_n 0, 1) := by decide +kernel
theorem dX0_init_36 : decode cX0_init 36 = .ok (.bipush 8, 2) := by decide +kernel
theorem dX0_init_38 : decode cX0_init 38 = .ok (.newarray .int, 2) := by decide +kernel
theorem dX0_init_40 : decode cX0_init 40 = .ok (.putfield 25, 3) := by decide +kernel
theorem dX0_init_43 : decode cX0_init 43 = .ok (.aload_n 0, 1) := by decide +kernel
theorem dX0_init_44 : decode cX0_init 44 = .ok (.iconst 0, 1) := by decide +kernel
theorem dX0_init_45 : decode cX0_init 45 = .ok (.putfield 28, 3) := by decide +kernel
theorem dX0_init_48 : decode cX0_init 48 = .ok (.aload_n 0, 1) := by decide +kernel
theorem dX0_init_49 : decode cX0_init 49 = .ok (.iconst 0, 1) := by decide +kernel
theorem dX0_init_50 : decode cX0_init 50 = .ok (.putfield 32, 3) := by decide +kernel
theorem dX0_init_53 : decode cX0_init 53 = .ok (.aload_n 0, 1) := by decide +kernel
theorem dX0_init_54 : decode cX0_init 54 = .ok (.iconst (-1), 1) := by decide +kernel
theorem dX0_init_55 : decode cX0_init 55 = .ok (.putfield 36, 3) := by decide +kernel
theorem dX0_init_58 : decode cX0_init 58 = .ok (.aload_n 0, 1) := by decide +kernel
theorem dX0_init_59 : decode cX0_init 59 = .ok (.iconst 0, 1) := by decide +kernel
theorem dX0_init_60 : decode cX0_init 60 = .ok (.putfield 39, 3) := by decide +kernel
theorem dX0_init_63 : decode cX0_init 63 = .ok (.aload_n 0, 1) := by decide +kernel
theorem dX0_init_64 : decode cX0_init 64 = .ok (.iconst 0, 1) := by decide +kernel
theorem dX0_init_65 : decode cX0_init 65 = .ok (.putfield 42, 3) := by decide +kernel
theorem dX0_init_68 : decode cX0_init 68 = .ok (.aload_n 0, 1) := by decide +kernel
theorem dX0_init_69 : decode cX0_init 69 = .ok (.aload_n 1, 1) := by decide +kernel
theorem dX0_init_70 : decode cX0_init 70 = .ok (.putfield 45, 3) := by decide +kernel
theorem dX0_init_73 : decode cX0_init 73 = .ok (.return_, 1) := by decide +kernel
theorem dX0_beginAnew_0 : decode cX0_beginAnew 0 = .ok (.aload_n 0, 1) := by decide +kernel
theorem dX0_beginAnew_1 : decode cX0_beginAnew 1 = .ok (.aload_n 1, 1) := by decide +kernel
theorem dX0_beginAnew_2 : decode cX0_beginAnew 2 = .ok (.invokevirtual 49, 3) := by decide +kernel
theorem dX0_beginAnew_5 : decode cX0_beginAnew 5 = .ok (.iconst 0, 1) := by decide +kernel
theorem dX0_beginAnew_6 : decode cX0_beginAnew 6 = .ok (.istore_n 2, 1) := by decide +kernel
theorem dX0_beginAnew_7 : decode cX0_beginAnew 7 = .ok (.iload_n 2, 1) := by decide +kernel
theorem dX0_beginAnew_8 : decode cX0_beginAnew 8 = .ok (.iconst 4, 1) := by decide +kernel
theorem dX0_beginAnew_9 : decode cX0_beginAnew 9 = .ok (.if_icmp .ge 16, 3) := by decide +kernel
theorem dX0_beginAnew_12 : decode cX0_beginAnew 12 = .ok (.aload_n 0, 1) := by decide +kernel
theorem dX0_beginAnew_13 : decode cX0_beginAnew 13 = .ok (.getfield 9, 3) := by decide +kernel
theorem dX0_beginAnew_16 : decode cX0_beginAnew 16 = .ok (.iload_n 2, 1) := by decide +kernel
theorem dX0_beginAnew_17 : decode cX0_beginAnew 17 = .ok (.iconst 0, 1) := by decide +kernel
theorem dX0_beginAnew_18 : decode cX0_beginAnew 18 = .ok (.iastore, 1) := by decide +kernel
theorem dX0_beginAnew_19 : decode cX0_beginAnew 19 = .ok (.iinc 2 1, 3) := by decide +kernel
theorem dX0_beginAnew_22 : decode cX0_beginAnew 22 = .ok (.goto (-15), 3) := by decide +kernel
theorem dX0_beginAnew_25 : decode cX0_beginAnew 25 = .ok (.iconst 0, 1) := by decide +kernel
theorem dX0_beginAnew_26 : decode cX0_beginAnew 26 = .ok (.istore_n 2, 1) := by decide +kernel
theorem dX0_beginAnew_27 : decode cX0_beginAnew 27 = .ok (.iload_n 2, 1) := by decide +kernel
theorem dX0_beginAnew_28 : decode cX0_beginAnew 28 = .ok (.bipush 8, 2) := by decide +kernel
theorem dX0_beginAnew_30 : decode cX0_beginAnew 30 = .ok (.if_icmp .ge 31, 3) := by decide +kernel
theorem dX0_beginAnew_33 : decode cX0_beginAnew 33 = .ok (.aload_n 0, 1) := by decide +kernel
theorem dX0_beginAnew_34 : decode cX0_beginAnew 34 = .ok (.getfield 15, 3) := by decide +kernel
theorem dX0_beginAnew_37 : decode cX0_beginAnew 37 = .ok (.iload_n 2, 1) := by decide +kernel
theorem dX0_beginAnew_38 : decode cX0_beginAnew 38 = .ok (.bipush 105, 2) := by decide +kernel
theorem dX0_beginAnew_40 : decode cX0_beginAnew 40 = .ok (.castore, 1) := by decide +kernel
theorem dX0_beginAnew_41 : decode cX0_beginAnew 41 = .ok (.aload_n 0, 1) := by decide +kernel
theorem dX0_beginAnew_42 : decode cX0_beginAnew 42 = .ok (.getfield 22, 3) := by decide +kernel
theorem dX0_beginAnew_45 : decode cX0_beginAnew 45 = .ok (.iload_n 2, 1) := by decide +kernel
theorem dX0_beginAnew_46 : decode cX0_beginAnew 46 = .ok (.iconst 0, 1) := by decide +kernel
theorem dX0_beginAnew_47 : decode cX0_beginAnew 47 = .ok (.iastore, 1) := by decide +kernel
theorem dX0_beginAnew_48 : decode cX0_beginAnew 48 = .ok (.aload_n 0, 1) := by decide +kernel
theorem dX0_beginAnew_49 : decode cX0_beginAnew 49 = .ok (.getfield 25, 3) := by decide +kernel
theorem dX0_beginAnew_52 : decode cX0_beginAnew 52 = .ok (.iload_n 2, 1) := by decide +kernel
theorem dX0_beginAnew_53 : decode cX0_beginAnew 53 = .ok (.iconst 0, 1) := by decide +kernel
theorem dX0_beginAnew_54 : decode cX0_beginAnew 54 = .ok (.iastore, 1) := by decide +kernel
theorem dX0_beginAnew_55 : decode cX0_beginAnew 55 = .ok (.iinc 2 1, 3) := by decide +kernel
theorem dX0_beginAnew_58 : decode cX0_beginAnew 58 = .ok (.goto (-31), 3) := by decide +kernel
theorem dX0_beginAnew_61 : decode cX0_beginAnew 61 = .ok (.aload_n 0, 1) := by decide +kernel
theorem dX0_beginAnew_62 : decode cX0_beginAnew 62 = .ok (.iconst 0, 1) := by decide +kernel
theorem dX0_beginAnew_63 : decode cX0_beginAnew 63 = .ok (.putfield 28, 3) := by decide +kernel
theorem dX0_beginAnew_66 : decode cX0_beginAnew 66 = .ok (.aload_n 0, 1) := by decide +kernel
theorem dX0_beginAnew_67 : decode cX0_beginAnew 67 = .ok (.iconst 0, 1) := by decide +kernel
theorem dX0_beginAnew_68 : decode cX0_beginAnew 68 = .ok (.putfield 32, 3) := by decide +kernel
theorem dX0_beginAnew_71 : decode cX0_beginAnew 71 = .ok (.aload_n 0, 1) := by decide +kernel
theorem dX0_beginAnew_72 : decode cX0_beginAnew 72 = .ok (.iconst (-1), 1) := by decide +kernel
theorem dX0_beginAnew_73 : decode cX0_beginAnew 73 = .ok (.putfield 36, 3) := by decide +kernel
theorem dX0_beginAnew_76 : decode cX0_beginAnew 76 = .ok (.aload_n 0, 1) := by decide +kernel
theorem dX0_beginAnew_77 : decode cX0_beginAnew 77 = .ok (.iconst 0, 1) := by decide +kernel
theorem dX0_beginAnew_78 : decode cX0_beginAnew 78 = .ok (.putfield 42, 3) := by decide +kernel
theorem dX0_beginAnew_81 : decode cX0_beginAnew 81 = .ok (.return_, 1) := by decide +kernel
theorem dX0_goBy_0 : decode cX0_goBy 0 = .ok (.aload_n 1, 1) := by decide +kernel
theorem dX0_goBy_1 : decode cX0_goBy 1 = .ok (.ifnull 8, 3) := by decide +kernel
theorem dX0_goBy_4 : decode cX0_goBy 4 = .ok (.aload_n 0, 1) := by decide +kernel
theorem dX0_goBy_5 : decode cX0_goBy 5 = .ok (.aload_n 1, 1) := by decide +kernel
theorem dX0_goBy_6 : decode cX0_goBy 6 = .ok (.putfield 45, 3) := by decide +kernel
theorem dX0_goBy_9 : decode cX0_goBy 9 = .ok (.return_, 1) := by decide +kernel
theorem dX0_putValue_0 : decode cX0_putValue 0 = .ok (.iload_n 1, 1) := by decide +kernel
theorem dX0_putValue_1 : decode cX0_putValue 1 = .ok (.invokestatic 53, 3) := by decide +kernel
theorem dX0_putValue_4 : decode cX0_putValue 4 = .ok (.ifCond .eq 10, 3) := by decide +kernel
theorem dX0_putValue_7 : decode cX0_putValue 7 = .ok (.aload_n 0, 1) := by decide +kernel
theorem dX0_putValue_8 : decode cX0_putValue 8 = .ok (.getfield 9, 3) := by decide +kernel
theorem dX0_putValue_11 : decode cX0_putValue 11 = .ok (.iload_n 1, 1) := by decide +kernel
theorem dX0_putValue_12 : decode cX0_putValue 12 = .ok (.iload_n 2, 1) := by decide +kernel
theorem dX0_putValue_13 : decode cX0_putValue 13 = .ok (.iastore, 1) := by decide +kernel
theorem dX0_putValue_14 : decode cX0_putValue 14 = .ok (.return_, 1) := by decide +kernel
theorem dX0_growOlder_0 : decode cX0_growOlder 0 = .ok (.aload_n 0, 1) := by decide +kernel
theorem dX0_growOlder_1 : decode cX0_growOlder 1 = .ok (.dup, 1) := by decide +kernel
theorem dX0_growOlder_2 : decode cX0_growOlder 2 = .ok (.getfield 28, 3) := by decide +kernel
theorem dX0_growOlder_5 : decode cX0_growOlder 5 = .ok (.iconst 1, 1) := by decide +kernel
theorem dX0_growOlder_6 : decode cX0_growOlder 6 = .ok (.iadd, 1) := by decide +kernel
theorem dX0_growOlder_7 : decode cX0_growOlder 7 = .ok (.putfield 28, 3) := by decide +kernel
theorem dX0_growOlder_10 : decode cX0_growOlder 10 = .ok (.aload_n 0, 1) := by decide +kernel
theorem dX0_growOlder_11 : decode cX0_growOlder 11 = .ok (.getfield 32, 3) := by decide +kernel
theorem dX0_growOlder_14 : decode cX0_growOlder 14 = .ok (.ifCond .eq 4, 3) := by decide +kernel
theorem dX0_growOlder_17 : decode cX0_growOlder 17 = .ok (.return_, 1) := by decide +kernel
theorem dX0_growOlder_18 : decode cX0_growOlder 18 = .ok (.iconst 0, 1) := by decide +kernel
theorem dX0_growOlder_19 : decode cX0_growOlder 19 = .ok (.istore_n 1, 1) := by decide +kernel
theorem dX0_growOlder_20 : decode cX0_growOlder 20 = .ok (.iload_n 1, 1) := by decide +kernel
theorem dX0_growOlder_21 : decode cX0_growOlder 21 = .ok (.bipush 8, 2) := by decide +kernel
theorem dX0_growOlder_23 : decode cX0_growOlder 23 = .ok (.if_icmp .ge 27, 3) := by decide +kernel
theorem dX0_growOlder_26 : decode cX0_growOlder 26 = .ok (.aload_n 0, 1) := by decide +kernel
theorem dX0_growOlder_27 : decode cX0_growOlder 27 = .ok (.iload_n 1, 1) := by decide +kernel
theorem dX0_growOlder_28 : decode cX0_growOlder 28 = .ok (.invokevirtual 57, 3) := by decide +kernel
theorem dX0_growOlder_31 : decode cX0_growOlder 31 = .ok (.ifCond .eq 13, 3) := by decide +kernel
theorem dX0_growOlder_34 : decode cX0_growOlder 34 = .ok (.aload_n 0, 1) := by decide +kernel
theorem dX0_growOlder_35 : decode cX0_growOlder 35 = .ok (.getfield 22, 3) := by decide +kernel
theorem dX0_growOlder_38 : decode cX0_growOlder 38 = .ok (.iload_n 1, 1) := by decide +kernel
theorem dX0_growOlder_39 : decode cX0_growOlder 39 = .ok (.dup2, 1) := by decide +kernel
theorem dX0_growOlder_40 : decode cX0_growOlder 40 = .ok (.iaload, 1) := by decide +kernel
theorem dX0_growOlder_41 : decode cX0_growOlder 41 = .ok (.iconst 1, 1) := by decide +kernel
theorem dX0_growOlder_42 : decode cX0_growOlder 42 = .ok (.iadd, 1) := by decide +kernel
theorem dX0_growOlder_43 : decode cX0_growOlder 43 = .ok (.iastore, 1) := by decide +kernel
theorem dX0_growOlder_44 : decode cX0_growOlder 44 = .ok (.iinc 1 1, 3) := by decide +kernel
theorem dX0_growOlder_47 : decode cX0_growOlder 47 = .ok (.goto (-27), 3) := by decide +kernel
theorem dX0_growOlder_50 : decode cX0_growOlder 50 = .ok (.return_, 1) := by decide +kernel
theorem dX0_runRounds_0 : decode cX0_runRounds 0 = .ok (.aload_n 0, 1) := by decide +kernel
theorem dX0_runRounds_1 : decode cX0_runRounds 1 = .ok (.iconst 0, 1) := by decide +kernel
theorem dX0_runRounds_2 : decode cX0_runRounds 2 = .ok (.putfield 39, 3) := by decide +kernel
theorem dX0_runRounds_5 : decode cX0_runRounds 5 = .ok (.iconst 1, 1) := by decide +kernel
theorem dX0_runRounds_6 : decode cX0_runRounds 6 = .ok (.istore_n 1, 1) := by decide +kernel
theorem dX0_runRounds_7 : decode cX0_runRounds 7 = .ok (.iload_n 1, 1) := by decide +kernel
theorem dX0_runRounds_8 : decode cX0_runRounds 8 = .ok (.bipush 20, 2) := by decide +kernel
theorem dX0_runRounds_10 : decode cX0_runRounds 10 = .ok (.if_icmp .gt 50, 3) := by decide +kernel
theorem dX0_runRounds_13 : decode cX0_runRounds 13 = .ok (.iconst 0, 1) := by decide +kernel
theorem dX0_runRounds_14 : decode cX0_runRounds 14 = .ok (.istore_n 2, 1) := by decide +kernel
theorem dX0_runRounds_15 : decode cX0_runRounds 15 = .ok (.iconst 0, 1) := by decide +kernel
theorem dX0_runRounds_16 : decode cX0_runRounds 16 = .ok (.istore_n 3, 1) := by decide +kernel
theorem dX0_runRounds_17 : decode cX0_runRounds 17 = .ok (.iload_n 3, 1) := by decide +kernel
theorem dX0_runRounds_18 : decode cX0_runRounds 18 = .ok (.aload_n 0, 1) := by decide +kernel
theorem dX0_runRounds_19 : decode cX0_runRounds 19 = .ok (.getfield 45, 3) := by decide +kernel
theorem dX0_runRounds_22 : decode cX0_runRounds 22 = .ok (.getfield 60, 3) := by decide +kernel
theorem dX0_runRounds_25 : decode cX0_runRounds 25 = .ok (.if_icmp .ge 19, 3) := by decide +kernel
theorem dX0_runRounds_28 : decode cX0_runRounds 28 = .ok (.aload_n 0, 1) := by decide +kernel
theorem dX0_runRounds_29 : decode cX0_runRounds 29 = .ok (.iload_n 3, 1) := by decide +kernel
theorem dX0_runRounds_30 : decode cX0_runRounds 30 = .ok (.invokevirtual 65, 3) := by decide +kernel
theorem dX0_runRounds_33 : decode cX0_runRounds 33 = .ok (.ifCond .eq 5, 3) := by decide +kernel
theorem dX0_runRounds_36 : decode cX0_runRounds 36 = .ok (.iconst 1, 1) := by decide +kernel
theorem dX0_runRounds_37 : decode cX0_runRounds 37 = .ok (.istore_n 2, 1) := by decide +kernel
theorem dX0_runRounds_38 : decode cX0_runRounds 38 = .ok (.iinc 3 1, 3) := by decide +kernel
theorem dX0_runRounds_41 : decode cX0_runRounds 41 = .ok (.goto (-24), 3) := by decide +kernel
theorem dX0_runRounds_44 : decode cX0_runRounds 44 = .ok (.iload_n 2, 1) := by decide +kernel
theorem dX0_runRounds_45 : decode cX0_runRounds 45 = .ok (.ifCond .ne 4, 3) := by decide +kernel
theorem dX0_runRounds_48 : decode cX0_runRounds 48 = .ok (.return_, 1) := by decide +kernel
theorem dX0_runRounds_49 : decode cX0_runRounds 49 = .ok (.aload_n 0, 1) := by decide +kernel
theorem dX0_runRounds_50 : decode cX0_runRounds 50 = .ok (.iload_n 1, 1) := by decide +kernel
theorem dX0_runRounds_51 : decode cX0_runRounds 51 = .ok (.putfield 39, 3) := by decide +kernel
theorem dX0_runRounds_54 : decode cX0_runRounds 54 = .ok (.iinc 1 1, 3) := by decide +kernel
theorem dX0_runRounds_57 : decode cX0_runRounds 57 = .ok (.goto (-50), 3) := by decide +kernel
theorem dX0_runRounds_60 : decode cX0_runRounds 60 = .ok (.return_, 1) := by decide +kernel
theorem dX0_applyRule_0 : decode cX0_applyRule 0 = .ok (.aload_n 0, 1) := by decide +kernel
theorem dX0_applyRule_1 : decode cX0_applyRule 1 = .ok (.getfield 45, 3) := by decide +kernel
theorem dX0_applyRule_4 : decode cX0_applyRule 4 = .ok (.iload_n 1, 1) := by decide +kernel
theorem dX0_applyRule_5 : decode cX0_applyRule 5 = .ok (.invokevirtual 68, 3) := by decide +kernel
theorem dX0_applyRule_8 : decode cX0_applyRule 8 = .ok (.astore_n 2, 1) := by decide +kernel
theorem dX0_applyRule_9 : decode cX0_applyRule 9 = .ok (.aload_n 2, 1) := by decide +kernel
theorem dX0_applyRule_10 : decode cX0_applyRule 10 = .ok (.ifnonnull 5, 3) := by decide +kernel
theorem dX0_applyRule_13 : decode cX0_applyRule 13 = .ok (.iconst 0, 1) := by decide +kernel
theorem dX0_applyRule_14 : decode cX0_applyRule 14 = .ok (.ireturn, 1) := by decide +kernel
theorem dX0_applyRule_15 : decode cX0_applyRule 15 = .ok (.aload_n 0, 1) := by decide +kernel
theorem dX0_applyRule_16 : decode cX0_applyRule 16 = .ok (.iload_n 1, 1) := by decide +kernel
theorem dX0_applyRule_17 : decode cX0_applyRule 17 = .ok (.invokevirtual 72, 3) := by decide +kernel
theorem dX0_applyRule_20 : decode cX0_applyRule 20 = .ok (.istore_n 3, 1) := by decide +kernel
theorem dX0_applyRule_21 : decode cX0_applyRule 21 = .ok (.iload_n 3, 1) := by decide +kernel
theorem dX0_applyRule_22 : decode cX0_applyRule 22 = .ok (.bipush 97, 2) := by decide +kernel
theorem dX0_applyRule_24 : decode cX0_applyRule 24 = .ok (.if_icmp .ne 23, 3) := by decide +kernel
theorem dX0_applyRule_27 : decode cX0_applyRule 27 = .ok (.aload_n 0, 1) := by decide +kernel
theorem dX0_applyRule_28 : decode cX0_applyRule 28 = .ok (.aload_n 2, 1) := by decide +kernel
theorem dX0_applyRule_29 : decode cX0_applyRule 29 = .ok (.getfield 76, 3) := by decide +kernel
theorem dX0_applyRule_32 : decode cX0_applyRule 32 = .ok (.invokevirtual 82, 3) := by decide +kernel
theorem dX0_applyRule_35 : decode cX0_applyRule 35 = .ok (.ifCond .eq 12, 3) := by decide +kernel
theorem dX0_applyRule_38 : decode cX0_applyRule 38 = .ok (.aload_n 0, 1) := by decide +kernel
theorem dX0_applyRule_39 : decode cX0_applyRule 39 = .ok (.iload_n 1, 1) := by decide +kernel
theorem dX0_applyRule_40 : decode cX0_applyRule 40 = .ok (.bipush 120, 2) := by decide +kernel
theorem dX0_applyRule_42 : decode cX0_applyRule 42 = .ok (.invokevirtual 86, 3) := by decide +kernel
theorem dX0_applyRule_45 : decode cX0_applyRule 45 = .ok (.iconst 1, 1) := by decide +kernel
theorem dX0_applyRule_46 : decode cX0_applyRule 46 = .ok (.ireturn, 1) := by decide +kernel
theorem dX0_applyRule_47 : decode cX0_applyRule 47 = .ok (.iload_n 3, 1) := by decide +kernel
theorem dX0_applyRule_48 : decode cX0_applyRule 48 = .ok (.bipush 105, 2) := by decide +kernel
theorem dX0_applyRule_50 : decode cX0_applyRule 50 = .ok (.if_icmp .ne 43, 3) := by decide +kernel
theorem dX0_applyRule_53 : decode cX0_applyRule 53 = .ok (.aload_n 0, 1) := by decide +kernel
theorem dX0_applyRule_54 : decode cX0_applyRule 54 = .ok (.aload_n 2, 1) := by decide +kernel
theorem dX0_applyRule_55 : decode cX0_applyRule 55 = .ok (.invokevirtual 90, 3) := by decide +kernel
theorem dX0_applyRule_58 : decode cX0_applyRule 58 = .ok (.ifCond .eq 35, 3) := by decide +kernel
theorem dX0_applyRule_61 : decode cX0_applyRule 61 = .ok (.aload_n 2, 1) := by decide +kernel
theorem dX0_applyRule_62 : decode cX0_applyRule 62 = .ok (.getfield 94, 3) := by decide +kernel
theorem dX0_applyRule_65 : decode cX0_applyRule 65 = .ok (.getfield 97, 3) := by decide +kernel
theorem dX0_applyRule_68 : decode cX0_applyRule 68 = .ok (.ifCond .eq 14, 3) := by decide +kernel
theorem dX0_applyRule_71 : decode cX0_applyRule 71 = .ok (.aload_n 0, 1) := by decide +kernel
theorem dX0_applyRule_72 : decode cX0_applyRule 72 = .ok (.aload_n 2, 1) := by decide +kernel
theorem dX0_applyRule_73 : decode cX0_applyRule 73 = .ok (.getfield 94, 3) := by decide +kernel
theorem dX0_applyRule_76 : decode cX0_applyRule 76 = .ok (.invokevirtual 82, 3) := by decide +kernel
theorem dX0_applyRule_79 : decode cX0_applyRule 79 = .ok (.ifCond .eq 14, 3) := by decide +kernel
theorem dX0_applyRule_82 : decode cX0_applyRule 82 = .ok (.aload_n 0, 1) := by decide +kernel
theorem dX0_applyRule_83 : decode cX0_applyRule 83 = .ok (.iload_n 1, 1) := by decide +kernel
theorem dX0_applyRule_84 : decode cX0_applyRule 84 = .ok (.aload_n 2, 1) := by decide +kernel
theorem dX0_applyRule_85 : decode cX0_applyRule 85 = .ok (.getfield 100, 3) := by decide +kernel
theorem dX0_applyRule_88 : decode cX0_applyRule 88 = .ok (.invokevirtual 104, 3) := by decide +kernel
theorem dX0_applyRule_91 : decode cX0_applyRule 91 = .ok (.iconst 1, 1) := by decide +kernel
theorem dX0_applyRule_92 : decode cX0_applyRule 92 = .ok (.ireturn, 1) := by decide +kernel
theorem dX0_applyRule_93 : decode cX0_applyRule 93 = .ok (.iload_n 3, 1) := by decide +kernel
theorem dX0_applyRule_94 : decode cX0_applyRule 94 = .ok (.bipush 97, 2) := by decide +kernel
theorem dX0_applyRule_96 : decode cX0_applyRule 96 = .ok (.if_icmp .ne 29, 3) := by decide +kernel
theorem dX0_applyRule_99 : decode cX0_applyRule 99 = .ok (.aload_n 2, 1) := by decide +kernel
theorem dX0_applyRule_100 : decode cX0_applyRule 100 = .ok (.getfield 100, 3) := by decide +kernel
theorem dX0_applyRule_103 : decode cX0_applyRule 103 = .ok (.bipush 115, 2) := by decide +kernel
theorem dX0_applyRule_105 : decode cX0_applyRule 105 = .ok (.if_icmp .ne 20, 3) := by decide +kernel
theorem dX0_applyRule_108 : decode cX0_applyRule 108 = .ok (.aload_n 0, 1) := by decide +kernel
theorem dX0_applyRule_109 : decode cX0_applyRule 109 = .ok (.iload_n 1, 1) := by decide +kernel
theorem dX0_applyRule_110 : decode cX0_applyRule 110 = .ok (.invokevirtual 107, 3) := by decide +kernel
theorem dX0_applyRule_113 : decode cX0_applyRule 113 = .ok (.ifCond .eq 12, 3) := by decide +kernel
theorem dX0_applyRule_116 : decode cX0_applyRule 116 = .ok (.aload_n 0, 1) := by decide +kernel
theorem dX0_applyRule_117 : decode cX0_applyRule 117 = .ok (.iload_n 1, 1) := by decide +kernel
theorem dX0_applyRule_118 : decode cX0_applyRule 118 = .ok (.bipush 99, 2) := by decide +kernel
theorem dX0_applyRule_120 : decode cX0_applyRule 120 = .ok (.invokevirtual 86, 3) := by decide +kernel
theorem dX0_applyRule_123 : decode cX0_applyRule 123 = .ok (.iconst 1, 1) := by decide +kernel
theorem dX0_applyRule_124 : decode cX0_applyRule 124 = .ok (.ireturn, 1) := by decide +kernel
theorem dX0_applyRule_125 : decode cX0_applyRule 125 = .ok (.iload_n 3, 1) := by decide +kernel
theorem dX0_applyRule_126 : decode cX0_applyRule 126 = .ok (.bipush 99, 2) := by decide +kernel
theorem dX0_applyRule_128 : decode cX0_applyRule 128 = .ok (.if_icmp .ne 49, 3) := by decide +kernel
theorem dX0_applyRule_131 : decode cX0_applyRule 131 = .ok (.aload_n 2, 1) := by decide +kernel
theorem dX0_applyRule_132 : decode cX0_applyRule 132 = .ok (.getfield 100, 3) := by decide +kernel
theorem dX0_applyRule_135 : decode cX0_applyRule 135 = .ok (.bipush 109, 2) := by decide +kernel
theorem dX0_applyRule_137 : decode cX0_applyRule 137 = .ok (.if_icmp .ne 40, 3) := by decide +kernel
theorem dX0_applyRule_140 : decode cX0_applyRule 140 = .ok (.aload_n 2, 1) := by decide +kernel
theorem dX0_applyRule_141 : decode cX0_applyRule 141 = .ok (.getfield 110, 3) := by decide +kernel
theorem dX0_applyRule_144 : decode cX0_applyRule 144 = .ok (.ifCond .eq 33, 3) := by decide +kernel
theorem dX0_applyRule_147 : decode cX0_applyRule 147 = .ok (.aload_n 2, 1) := by decide +kernel
theorem dX0_applyRule_148 : decode cX0_applyRule 148 = .ok (.getfield 94, 3) := by decide +kernel
theorem dX0_applyRule_151 : decode cX0_applyRule 151 = .ok (.getfield 97, 3) := by decide +kernel
theorem dX0_applyRule_154 : decode cX0_applyRule 154 = .ok (.ifCond .le 23, 3) := by decide +kernel
theorem dX0_applyRule_157 : decode cX0_applyRule 157 = .ok (.aload_n 0, 1) := by decide +kernel
theorem dX0_applyRule_158 : decode cX0_applyRule 158 = .ok (.aload_n 2, 1) := by decide +kernel
theorem dX0_applyRule_159 : decode cX0_applyRule 159 = .ok (.getfield 94, 3) := by decide +kernel
theorem dX0_applyRule_162 : decode cX0_applyRule 162 = .ok (.invokevirtual 82, 3) := by decide +kernel
theorem dX0_applyRule_165 : decode cX0_applyRule 165 = .ok (.ifCond .ne 12, 3) := by decide +kernel
theorem dX0_applyRule_168 : decode cX0_applyRule 168 = .ok (.aload_n 0, 1) := by decide +kernel
theorem dX0_applyRule_169 : decode cX0_applyRule 169 = .ok (.iload_n 1, 1) := by decide +kernel
theorem dX0_applyRule_170 : decode cX0_applyRule 170 = .ok (.bipush 105, 2) := by decide +kernel
theorem dX0_applyRule_172 : decode cX0_applyRule 172 = .ok (.invokevirtual 113, 3) := by decide +kernel
theorem dX0_applyRule_175 : decode cX0_applyRule 175 = .ok (.iconst 1, 1) := by decide +kernel
theorem dX0_applyRule_176 : decode cX0_applyRule 176 = .ok (.ireturn, 1) := by decide +kernel
theorem dX0_applyRule_177 : decode cX0_applyRule 177 = .ok (.iconst 0, 1) := by decide +kernel
theorem dX0_applyRule_178 : decode cX0_applyRule 178 = .ok (.ireturn, 1) := by decide +kernel
theorem dX0_isParentActive_0 : decode cX0_isParentActive 0 = .ok (.aload_n 1, 1) := by decide +kernel
theorem dX0_isParentActive_1 : decode cX0_isParentActive 1 = .ok (.getfield 116, 3) := by decide +kernel
theorem dX0_isParentActive_4 : decode cX0_isParentActive 4 = .ok (.iconst (-1), 1) := by decide +kernel
theorem dX0_isParentActive_5 : decode cX0_isParentActive 5 = .ok (.if_icmp .eq 16, 3) := by decide +kernel
theorem dX0_isParentActive_8 : decode cX0_isParentActive 8 = .ok (.aload_n 0, 1) := by decide +kernel
theorem dX0_isParentActive_9 : decode cX0_isParentActive 9 = .ok (.aload_n 1, 1) := by decide +kernel
theorem dX0_isParentActive_10 : decode cX0_isParentActive 10 = .ok (.getfield 116, 3) := by decide +kernel
theorem dX0_isParentActive_13 : decode cX0_isParentActive 13 = .ok (.invokevirtual 72, 3) := by decide +kernel
theorem dX0_isParentActive_16 : decode cX0_isParentActive 16 = .ok (.bipush 97, 2) := by decide +kernel
theorem dX0_isParentActive_18 : decode cX0_isParentActive 18 = .ok (.if_icmp .ne 7, 3) := by decide +kernel
theorem dX0_isParentActive_21 : decode cX0_isParentActive 21 = .ok (.iconst 1, 1) := by decide +kernel
theorem dX0_isParentActive_22 : decode cX0_isParentActive 22 = .ok (.goto 4, 3) := by decide +kernel
theorem dX0_isParentActive_25 : decode cX0_isParentActive 25 = .ok (.iconst 0, 1) := by decide +kernel
theorem dX0_isParentActive_26 : decode cX0_isParentActive 26 = .ok (.ireturn, 1) := by decide +kernel
theorem dX0_enter_0 : decode cX0_enter 0 = .ok (.aload_n 0, 1) := by decide +kernel
theorem dX0_enter_1 : decode cX0_enter 1 = .ok (.iload_n 1, 1) := by decide +kernel
theorem dX0_enter_2 : decode cX0_enter 2 = .ok (.iload_n 2, 1) := by decide +kernel
theorem dX0_enter_3 : decode cX0_enter 3 = .ok (.bipush 109, 2) := by decide +kernel
theorem dX0_enter_5 : decode cX0_enter 5 = .ok (.if_icmp .ne 8, 3) := by decide +kernel
theorem dX0_enter_8 : decode cX0_enter 8 = .ok (.bipush 99, 2) := by decide +kernel
theorem dX0_enter_10 : decode cX0_enter 10 = .ok (.goto 5, 3) := by decide +kernel
theorem dX0_enter_13 : decode cX0_enter 13 = .ok (.bipush 97, 2) := by decide +kernel
theorem dX0_enter_15 : decode cX0_enter 15 = .ok (.invokevirtual 113, 3) := by decide +kernel
theorem dX0_enter_18 : decode cX0_enter 18 = .ok (.iload_n 1, 1) := by decide +kernel
theorem dX0_enter_19 : decode cX0_enter 19 = .ok (.ifCond .lt 19, 3) := by decide +kernel
theorem dX0_enter_22 : decode cX0_enter 22 = .ok (.iload_n 1, 1) := by decide +kernel
theorem dX0_enter_23 : decode cX0_enter 23 = .ok (.bipush 8, 2) := by decide +kernel
theorem dX0_enter_25 : decode cX0_enter 25 = .ok (.if_icmp .ge 13, 3) := by decide +kernel
theorem dX0_enter_28 : decode cX0_enter 28 = .ok (.aload_n 0, 1) := by decide +kernel
theorem dX0_enter_29 : decode cX0_enter 29 = .ok (.getfield 25, 3) := by decide +kernel
theorem dX0_enter_32 : decode cX0_enter 32 = .ok (.iload_n 1, 1) := by decide +kernel
theorem dX0_enter_33 : decode cX0_enter 33 = .ok (.dup2, 1) := by decide +kernel
theorem dX0_enter_34 : decode cX0_enter 34 = .ok (.iaload, 1) := by decide +kernel
theorem dX0_enter_35 : decode cX0_enter 35 = .ok (.iconst 1, 1) := by decide +kernel
theorem dX0_enter_36 : decode cX0_enter 36 = .ok (.iadd, 1) := by decide +kernel
theorem dX0_enter_37 : decode cX0_enter 37 = .ok (.iastore, 1) := by decide +kernel
theorem dX0_enter_38 : decode cX0_enter 38 = .ok (.return_, 1) := by decide +kernel
theorem dX0_finish_0 : decode cX0_finish 0 = .ok (.aload_n 0, 1) := by decide +kernel
theorem dX0_finish_1 : decode cX0_finish 1 = .ok (.iload_n 1, 1) := by decide +kernel
theorem dX0_finish_2 : decode cX0_finish 2 = .ok (.iload_n 2, 1) := by decide +kernel
theorem dX0_finish_3 : decode cX0_finish 3 = .ok (.invokevirtual 113, 3) := by decide +kernel
theorem dX0_finish_6 : decode cX0_finish 6 = .ok (.iconst 1, 1) := by decide +kernel
theorem dX0_finish_7 : decode cX0_finish 7 = .ok (.iload_n 1, 1) := by decide +kernel
theorem dX0_finish_8 : decode cX0_finish 8 = .ok (.ishl, 1) := by decide +kernel
theorem dX0_finish_9 : decode cX0_finish 9 = .ok (.istore_n 3, 1) := by decide +kernel
theorem dX0_finish_10 : decode cX0_finish 10 = .ok (.iload_n 1, 1) := by decide +kernel
theorem dX0_finish_11 : decode cX0_finish 11 = .ok (.iconst 1, 1) := by decide +kernel
theorem dX0_finish_12 : decode cX0_finish 12 = .ok (.iadd, 1) := by decide +kernel
theorem dX0_finish_13 : decode cX0_finish 13 = .ok (.istore 4, 2) := by decide +kernel
theorem dX0_finish_15 : decode cX0_finish 15 = .ok (.iload 4, 2) := by decide +kernel
theorem dX0_finish_17 : decode cX0_finish 17 = .ok (.aload_n 0, 1) := by decide +kernel
theorem dX0_finish_18 : decode cX0_finish 18 = .ok (.getfield 45, 3) := by decide +kernel
theorem dX0_finish_21 : decode cX0_finish 21 = .ok (.getfield 60, 3) := by decide +kernel
theorem dX0_finish_24 : decode cX0_finish 24 = .ok (.if_icmp .ge 86, 3) := by decide +kernel
theorem dX0_finish_27 : decode cX0_finish 27 = .ok (.aload_n 0, 1) := by decide +kernel
theorem dX0_finish_28 : decode cX0_finish 28 = .ok (.getfield 45, 3) := by decide +kernel
theorem dX0_finish_31 : decode cX0_finish 31 = .ok (.iload 4, 2) := by decide +kernel
theorem dX0_finish_33 : decode cX0_finish 33 = .ok (.invokevirtual 68, 3) := by decide +kernel
theorem dX0_finish_36 : decode cX0_finish 36 = .ok (.astore 5, 2) := by decide +kernel
theorem dX0_finish_38 : decode cX0_finish 38 = .ok (.aload 5, 2) := by decide +kernel
theorem dX0_finish_40 : decode cX0_finish 40 = .ok (.ifnull 64, 3) := by decide +kernel
theorem dX0_finish_43 : decode cX0_finish 43 = .ok (.aload 5, 2) := by decide +kernel
theorem dX0_finish_45 : decode cX0_finish 45 = .ok (.getfield 116, 3) := by decide +kernel
theorem dX0_finish_48 : decode cX0_finish 48 = .ok (.iconst (-1), 1) := by decide +kernel
theorem dX0_finish_49 : decode cX0_finish 49 = .ok (.if_icmp .eq 55, 3) := by decide +kernel
theorem dX0_finish_52 : decode cX0_finish 52 = .ok (.iload_n 3, 1) := by decide +kernel
theorem dX0_finish_53 : decode cX0_finish 53 = .ok (.aload 5, 2) := by decide +kernel
theorem dX0_finish_55 : decode cX0_finish 55 = .ok (.getfield 116, 3) := by decide +kernel
theorem dX0_finish_58 : decode cX0_finish 58 = .ok (.ishr, 1) := by decide +kernel
theorem dX0_finish_59 : decode cX0_finish 59 = .ok (.iconst 1, 1) := by decide +kernel
theorem dX0_finish_60 : decode cX0_finish 60 = .ok (.iand, 1) := by decide +kernel
theorem dX0_finish_61 : decode cX0_finish 61 = .ok (.ifCond .ne 6, 3) := by decide +kernel
theorem dX0_finish_64 : decode cX0_finish 64 = .ok (.goto 40, 3) := by decide +kernel
theorem dX0_finish_67 : decode cX0_finish 67 = .ok (.aload_n 0, 1) := by decide +kernel
theorem dX0_finish_68 : decode cX0_finish 68 = .ok (.iload 4, 2) := by decide +kernel
theorem dX0_finish_70 : decode cX0_finish 70 = .ok (.invokevirtual 72, 3) := by decide +kernel
theorem dX0_finish_73 : decode cX0_finish 73 = .ok (.bipush 105, 2) := by decide +kernel
theorem dX0_finish_75 : decode cX0_finish 75 = .ok (.if_icmp .eq 14, 3) := by decide +kernel
theorem dX0_finish_78 : decode cX0_finish 78 = .ok (.aload_n 0, 1) := by decide +kernel
theorem dX0_finish_79 : decode cX0_finish 79 = .ok (.iload 4, 2) := by decide +kernel
theorem dX0_finish_81 : decode cX0_finish 81 = .ok (.invokevirtual 72, 3) := by decide +kernel
theorem dX0_finish_84 : decode cX0_finish 84 = .ok (.bipush 97, 2) := by decide +kernel
theorem dX0_finish_86 : decode cX0_finish 86 = .ok (.if_icmp .ne 18, 3) := by decide +kernel
theorem dX0_finish_89 : decode cX0_finish 89 = .ok (.aload_n 0, 1) := by decide +kernel
theorem dX0_finish_90 : decode cX0_finish 90 = .ok (.iload 4, 2) := by decide +kernel
theorem dX0_finish_92 : decode cX0_finish 92 = .ok (.bipush 120, 2) := by decide +kernel
theorem dX0_finish_94 : decode cX0_finish 94 = .ok (.invokevirtual 113, 3) := by decide +kernel
theorem dX0_finish_97 : decode cX0_finish 97 = .ok (.iload_n 3, 1) := by decide +kernel
theorem dX0_finish_98 : decode cX0_finish 98 = .ok (.iconst 1, 1) := by decide +kernel
theorem dX0_finish_99 : decode cX0_finish 99 = .ok (.iload 4, 2) := by decide +kernel
theorem dX0_finish_101 : decode cX0_finish 101 = .ok (.ishl, 1) := by decide +kernel
theorem dX0_finish_102 : decode cX0_finish 102 = .ok (.ior, 1) := by decide +kernel
theorem dX0_finish_103 : decode cX0_finish 103 = .ok (.istore_n 3, 1) := by decide +kernel
theorem dX0_finish_104 : decode cX0_finish 104 = .ok (.iinc 4 1, 3) := by decide +kernel
theorem dX0_finish_107 : decode cX0_finish 107 = .ok (.goto (-92), 3) := by decide +kernel
theorem dX0_finish_110 : decode cX0_finish 110 = .ok (.return_, 1) := by decide +kernel
theorem dX0_areChildrenDone_0 : decode cX0_areChildrenDone 0 = .ok (.iconst 0, 1) := by decide +kernel
theorem dX0_areChildrenDone_1 : decode cX0_areChildrenDone 1 = .ok (.istore_n 2, 1) := by decide +kernel
theorem dX0_areChildrenDone_2 : decode cX0_areChildrenDone 2 = .ok (.iconst 0, 1) := by decide +kernel
theorem dX0_areChildrenDone_3 : decode cX0_areChildrenDone 3 = .ok (.istore_n 3, 1) := by decide +kernel
theorem dX0_areChildrenDone_4 : decode cX0_areChildrenDone 4 = .ok (.iload_n 3, 1) := by decide +kernel
theorem dX0_areChildrenDone_5 : decode cX0_areChildrenDone 5 = .ok (.aload_n 0, 1) := by decide +kernel
theorem dX0_areChildrenDone_6 : decode cX0_areChildrenDone 6 = .ok (.getfield 45, 3) := by decide +kernel
theorem dX0_areChildrenDone_9 : decode cX0_areChildrenDone 9 = .ok (.getfield 60, 3) := by decide +kernel
theorem dX0_areChildrenDone_12 : decode cX0_areChildrenDone 12 = .ok (.if_icmp .ge 98, 3) := by decide +kernel
theorem dX0_areChildrenDone_15 : decode cX0_areChildrenDone 15 = .ok (.aload_n 0, 1) := by decide +kernel
theorem dX0_areChildrenDone_16 : decode cX0_areChildrenDone 16 = .ok (.getfield 45, 3) := by decide +kernel
theorem dX0_areChildrenDone_19 : decode cX0_areChildrenDone 19 = .ok (.iload_n 3, 1) := by decide +kernel
theorem dX0_areChildrenDone_20 : decode cX0_areChildrenDone 20 = .ok (.invokevirtual 68, 3) := by decide +kernel
theorem dX0_areChildrenDone_23 : decode cX0_areChildrenDone 23 = .ok (.astore 4, 2) := by decide +kernel
theorem dX0_areChildrenDone_25 : decode cX0_areChildrenDone 25 = .ok (.aload 4, 2) := by decide +kernel
theorem dX0_areChildrenDone_27 : decode cX0_areChildrenDone 27 = .ok (.ifnull 77, 3) := by decide +kernel
theorem dX0_areChildrenDone_30 : decode cX0_areChildrenDone 30 = .ok (.aload 4, 2) := by decide +kernel
theorem dX0_areChildrenDone_32 : decode cX0_areChildrenDone 32 = .ok (.getfield 116, 3) := by decide +kernel
theorem dX0_areChildrenDone_35 : decode cX0_areChildrenDone 35 = .ok (.iload_n 1, 1) := by decide +kernel
theorem dX0_areChildrenDone_36 : decode cX0_areChildrenDone 36 = .ok (.if_icmp .eq 6, 3) := by decide +kernel
theorem dX0_areChildrenDone_39 : decode cX0_areChildrenDone 39 = .ok (.goto 65, 3) := by decide +kernel
theorem dX0_areChildrenDone_42 : decode cX0_areChildrenDone 42 = .ok (.iconst 1, 1) := by decide +kernel
theorem dX0_areChildrenDone_43 : decode cX0_areChildrenDone 43 = .ok (.istore_n 2, 1) := by decide +kernel
theorem dX0_areChildrenDone_44 : decode cX0_areChildrenDone 44 = .ok (.aload_n 0, 1) := by decide +kernel
theorem dX0_areChildrenDone_45 : decode cX0_areChildrenDone 45 = .ok (.iload_n 3, 1) := by decide +kernel
theorem dX0_areChildrenDone_46 : decode cX0_areChildrenDone 46 = .ok (.invokevirtual 72, 3) := by decide +kernel
theorem dX0_areChildrenDone_49 : decode cX0_areChildrenDone 49 = .ok (.istore 5, 2) := by decide +kernel
theorem dX0_areChildrenDone_51 : decode cX0_areChildrenDone 51 = .ok (.iload 5, 2) := by decide +kernel
theorem dX0_areChildrenDone_53 : decode cX0_areChildrenDone 53 = .ok (.bipush 105, 2) := by decide +kernel
theorem dX0_areChildrenDone_55 : decode cX0_areChildrenDone 55 = .ok (.if_icmp .ne 25, 3) := by decide +kernel
theorem dX0_areChildrenDone_58 : decode cX0_areChildrenDone 58 = .ok (.aload 4, 2) := by decide +kernel
theorem dX0_areChildrenDone_60 : decode cX0_areChildrenDone 60 = .ok (.getfield 100, 3) := by decide +kernel
theorem dX0_areChildrenDone_63 : decode cX0_areChildrenDone 63 = .ok (.bipush 116, 2) := by decide +kernel
theorem dX0_areChildrenDone_65 : decode cX0_areChildrenDone 65 = .ok (.if_icmp .ne 15, 3) := by decide +kernel
theorem dX0_areChildrenDone_68 : decode cX0_areChildrenDone 68 = .ok (.aload 4, 2) := by decide +kernel
theorem dX0_areChildrenDone_70 : decode cX0_areChildrenDone 70 = .ok (.getfield 119, 3) := by decide +kernel
theorem dX0_areChildrenDone_73 : decode cX0_areChildrenDone 73 = .ok (.ifCond .ne 7, 3) := by decide +kernel
theorem dX0_areChildrenDone_76 : decode cX0_areChildrenDone 76 = .ok (.iconst 1, 1) := by decide +kernel
theorem dX0_areChildrenDone_77 : decode cX0_areChildrenDone 77 = .ok (.goto 4, 3) := by decide +kernel
theorem dX0_areChildrenDone_80 : decode cX0_areChildrenDone 80 = .ok (.iconst 0, 1) := by decide +kernel
theorem dX0_areChildrenDone_81 : decode cX0_areChildrenDone 81 = .ok (.istore 6, 2) := by decide +kernel
theorem dX0_areChildrenDone_83 : decode cX0_areChildrenDone 83 = .ok (.iload 5, 2) := by decide +kernel
theorem dX0_areChildrenDone_85 : decode cX0_areChildrenDone 85 = .ok (.bipush 99, 2) := by decide +kernel
theorem dX0_areChildrenDone_87 : decode cX0_areChildrenDone 87 = .ok (.if_icmp .eq 17, 3) := by decide +kernel
theorem dX0_areChildrenDone_90 : decode cX0_areChildrenDone 90 = .ok (.iload 5, 2) := by decide +kernel
theorem dX0_areChildrenDone_92 : decode cX0_areChildrenDone 92 = .ok (.bipush 120, 2) := by decide +kernel
theorem dX0_areChildrenDone_94 : decode cX0_areChildrenDone 94 = .ok (.if_icmp .eq 10, 3) := by decide +kernel
theorem dX0_areChildrenDone_97 : decode cX0_areChildrenDone 97 = .ok (.iload 6, 2) := by decide +kernel
theorem dX0_areChildrenDone_99 : decode cX0_areChildrenDone 99 = .ok (.ifCond .ne 5, 3) := by decide +kernel
theorem dX0_areChildrenDone_102 : decode cX0_areChildrenDone 102 = .ok (.iconst 0, 1) := by decide +kernel
theorem dX0_areChildrenDone_103 : decode cX0_areChildrenDone 103 = .ok (.ireturn, 1) := by decide +kernel
theorem dX0_areChildrenDone_104 : decode cX0_areChildrenDone 104 = .ok (.iinc 3 1, 3) := by decide +kernel
theorem dX0_areChildrenDone_107 : decode cX0_areChildrenDone 107 = .ok (.goto (-103), 3) := by decide +kernel
theorem dX0_areChildrenDone_110 : decode cX0_areChildrenDone 110 = .ok (.iload_n 2, 1) := by decide +kernel
theorem dX0_areChildrenDone_111 : decode cX0_areChildrenDone 111 = .ok (.ireturn, 1) := by decide +kernel
theorem dX0_anyMet_0 : decode cX0_anyMet 0 = .ok (.iconst 0, 1) := by decide +kernel
theorem dX0_anyMet_1 : decode cX0_anyMet 1 = .ok (.istore_n 2, 1) := by decide +kernel
theorem dX0_anyMet_2 : decode cX0_anyMet 2 = .ok (.iload_n 2, 1) := by decide +kernel
theorem dX0_anyMet_3 : decode cX0_anyMet 3 = .ok (.aload_n 1, 1) := by decide +kernel
theorem dX0_anyMet_4 : decode cX0_anyMet 4 = .ok (.getfield 97, 3) := by decide +kernel
theorem dX0_anyMet_7 : decode cX0_anyMet 7 = .ok (.if_icmp .ge 29, 3) := by decide +kernel
theorem dX0_anyMet_10 : decode cX0_anyMet 10 = .ok (.aload_n 1, 1) := by decide +kernel
theorem dX0_anyMet_11 : decode cX0_anyMet 11 = .ok (.iload_n 2, 1) := by decide +kernel
theorem dX0_anyMet_12 : decode cX0_anyMet 12 = .ok (.invokevirtual 122, 3) := by decide +kernel
theorem dX0_anyMet_15 : decode cX0_anyMet 15 = .ok (.astore_n 3, 1) := by decide +kernel
theorem dX0_anyMet_16 : decode cX0_anyMet 16 = .ok (.aload_n 3, 1) := by decide +kernel
theorem dX0_anyMet_17 : decode cX0_anyMet 17 = .ok (.ifnull 13, 3) := by decide +kernel
theorem dX0_anyMet_20 : decode cX0_anyMet 20 = .ok (.aload_n 0, 1) := by decide +kernel
theorem dX0_anyMet_21 : decode cX0_anyMet 21 = .ok (.aload_n 3, 1) := by decide +kernel
theorem dX0_anyMet_22 : decode cX0_anyMet 22 = .ok (.invokevirtual 126, 3) := by decide +kernel
theorem dX0_anyMet_25 : decode cX0_anyMet 25 = .ok (.ifCond .eq 5, 3) := by decide +kernel
theorem dX0_anyMet_28 : decode cX0_anyMet 28 = .ok (.iconst 1, 1) := by decide +kernel
theorem dX0_anyMet_29 : decode cX0_anyMet 29 = .ok (.ireturn, 1) := by decide +kernel
theorem dX0_anyMet_30 : decode cX0_anyMet 30 = .ok (.iinc 2 1, 3) := by decide +kernel
theorem dX0_anyMet_33 : decode cX0_anyMet 33 = .ok (.goto (-31), 3) := by decide +kernel
theorem dX0_anyMet_36 : decode cX0_anyMet 36 = .ok (.iconst 0, 1) := by decide +kernel
theorem dX0_anyMet_37 : decode cX0_anyMet 37 = .ok (.ireturn, 1) := by decide +kernel
theorem dX0_isMet_0 : decode cX0_isMet 0 = .ok (.aload_n 1, 1) := by decide +kernel
theorem dX0_isMet_1 : decode cX0_isMet 1 = .ok (.getfield 130, 3) := by decide +kernel
theorem dX0_isMet_4 : decode cX0_isMet 4 = .ok (.istore_n 2, 1) := by decide +kernel
theorem dX0_isMet_5 : decode cX0_isMet 5 = .ok (.aload_n 1, 1) := by decide +kernel
theorem dX0_isMet_6 : decode cX0_isMet 6 = .ok (.getfield 135, 3) := by decide +kernel
theorem dX0_isMet_9 : decode cX0_isMet 9 = .ok (.istore_n 3, 1) := by decide +kernel
theorem dX0_isMet_10 : decode cX0_isMet 10 = .ok (.iload_n 2, 1) := by decide +kernel
theorem dX0_isMet_11 : decode cX0_isMet 11 = .ok (.bipush 100, 2) := by decide +kernel
theorem dX0_isMet_13 : decode cX0_isMet 13 = .ok (.if_icmp .ne 31, 3) := by decide +kernel
theorem dX0_isMet_16 : decode cX0_isMet 16 = .ok (.iload_n 3, 1) := by decide +kernel
theorem dX0_isMet_17 : decode cX0_isMet 17 = .ok (.ifCond .lt 25, 3) := by decide +kernel
theorem dX0_isMet_20 : decode cX0_isMet 20 = .ok (.iload_n 3, 1) := by decide +kernel
theorem dX0_isMet_21 : decode cX0_isMet 21 = .ok (.iconst 4, 1) := by decide +kernel
theorem dX0_isMet_22 : decode cX0_isMet 22 = .ok (.if_icmp .ge 20, 3) := by decide +kernel
theorem dX0_isMet_25 : decode cX0_isMet 25 = .ok (.aload_n 0, 1) := by decide +kernel
theorem dX0_isMet_26 : decode cX0_isMet 26 = .ok (.getfield 9, 3) := by decide +kernel
theorem dX0_isMet_29 : decode cX0_isMet 29 = .ok (.iload_n 3, 1) := by decide +kernel
theorem dX0_isMet_30 : decode cX0_isMet 30 = .ok (.iaload, 1) := by decide +kernel
theorem dX0_isMet_31 : decode cX0_isMet 31 = .ok (.aload_n 1, 1) := by decide +kernel
theorem dX0_isMet_32 : decode cX0_isMet 32 = .ok (.getfield 138, 3) := by decide +kernel
theorem dX0_isMet_35 : decode cX0_isMet 35 = .ok (.if_icmp .lt 7, 3) := by decide +kernel
theorem dX0_isMet_38 : decode cX0_isMet 38 = .ok (.iconst 1, 1) := by decide +kernel
theorem dX0_isMet_39 : decode cX0_isMet 39 = .ok (.goto 4, 3) := by decide +kernel
theorem dX0_isMet_42 : decode cX0_isMet 42 = .ok (.iconst 0, 1) := by decide +kernel
theorem dX0_isMet_43 : decode cX0_isMet 43 = .ok (.ireturn, 1) := by decide +kernel
theorem dX0_isMet_44 : decode cX0_isMet 44 = .ok (.iload_n 2, 1) := by decide +kernel
theorem dX0_isMet_45 : decode cX0_isMet 45 = .ok (.bipush 108, 2) := by decide +kernel
theorem dX0_isMet_47 : decode cX0_isMet 47 = .ok (.if_icmp .ne 31, 3) := by decide +kernel
theorem dX0_isMet_50 : decode cX0_isMet 50 = .ok (.iload_n 3, 1) := by decide +kernel
theorem dX0_isMet_51 : decode cX0_isMet 51 = .ok (.ifCond .lt 25, 3) := by decide +kernel
theorem dX0_isMet_54 : decode cX0_isMet 54 = .ok (.iload_n 3, 1) := by decide +kernel
theorem dX0_isMet_55 : decode cX0_isMet 55 = .ok (.iconst 4, 1) := by decide +kernel
theorem dX0_isMet_56 : decode cX0_isMet 56 = .ok (.if_icmp .ge 20, 3) := by decide +kernel
theorem dX0_isMet_59 : decode cX0_isMet 59 = .ok (.aload_n 0, 1) := by decide +kernel
theorem dX0_isMet_60 : decode cX0_isMet 60 = .ok (.getfield 9, 3) := by decide +kernel
theorem dX0_isMet_63 : decode cX0_isMet 63 = .ok (.iload_n 3, 1) := by decide +kernel
theorem dX0_isMet_64 : decode cX0_isMet 64 = .ok (.iaload, 1) := by decide +kernel
theorem dX0_isMet_65 : decode cX0_isMet 65 = .ok (.aload_n 1, 1) := by decide +kernel
theorem dX0_isMet_66 : decode cX0_isMet 66 = .ok (.getfield 138, 3) := by decide +kernel
theorem dX0_isMet_69 : decode cX0_isMet 69 = .ok (.if_icmp .ge 7, 3) := by decide +kernel
theorem dX0_isMet_72 : decode cX0_isMet 72 = .ok (.iconst 1, 1) := by decide +kernel
theorem dX0_isMet_73 : decode cX0_isMet 73 = .ok (.goto 4, 3) := by decide +kernel
theorem dX0_isMet_76 : decode cX0_isMet 76 = .ok (.iconst 0, 1) := by decide +kernel
theorem dX0_isMet_77 : decode cX0_isMet 77 = .ok (.ireturn, 1) := by decide +kernel
theorem dX0_isMet_78 : decode cX0_isMet 78 = .ok (.iload_n 2, 1) := by decide +kernel
theorem dX0_isMet_79 : decode cX0_isMet 79 = .ok (.bipush 101, 2) := by decide +kernel
theorem dX0_isMet_81 : decode cX0_isMet 81 = .ok (.if_icmp .ne 17, 3) := by decide +kernel
theorem dX0_isMet_84 : decode cX0_isMet 84 = .ok (.aload_n 0, 1) := by decide +kernel
theorem dX0_isMet_85 : decode cX0_isMet 85 = .ok (.getfield 36, 3) := by decide +kernel
theorem dX0_isMet_88 : decode cX0_isMet 88 = .ok (.iload_n 3, 1) := by decide +kernel
theorem dX0_isMet_89 : decode cX0_isMet 89 = .ok (.if_icmp .ne 7, 3) := by decide +kernel
theorem dX0_isMet_92 : decode cX0_isMet 92 = .ok (.iconst 1, 1) := by decide +kernel
theorem dX0_isMet_93 : decode cX0_isMet 93 = .ok (.goto 4, 3) := by decide +kernel
theorem dX0_isMet_96 : decode cX0_isMet 96 = .ok (.iconst 0, 1) := by decide +kernel
theorem dX0_isMet_97 : decode cX0_isMet 97 = .ok (.ireturn, 1) := by decide +kernel
theorem dX0_isMet_98 : decode cX0_isMet 98 = .ok (.iload_n 2, 1) := by decide +kernel
theorem dX0_isMet_99 : decode cX0_isMet 99 = .ok (.bipush 99, 2) := by decide +kernel
theorem dX0_isMet_101 : decode cX0_isMet 101 = .ok (.if_icmp .ne 30, 3) := by decide +kernel
theorem dX0_isMet_104 : decode cX0_isMet 104 = .ok (.iload_n 3, 1) := by decide +kernel
theorem dX0_isMet_105 : decode cX0_isMet 105 = .ok (.ifCond .lt 24, 3) := by decide +kernel
theorem dX0_isMet_108 : decode cX0_isMet 108 = .ok (.iload_n 3, 1) := by decide +kernel
theorem dX0_isMet_109 : decode cX0_isMet 109 = .ok (.bipush 8, 2) := by decide +kernel
theorem dX0_isMet_111 : decode cX0_isMet 111 = .ok (.if_icmp .ge 18, 3) := by decide +kernel
theorem dX0_isMet_114 : decode cX0_isMet 114 = .ok (.aload_n 0, 1) := by decide +kernel
theorem dX0_isMet_115 : decode cX0_isMet 115 = .ok (.getfield 15, 3) := by decide +kernel
theorem dX0_isMet_118 : decode cX0_isMet 118 = .ok (.iload_n 3, 1) := by decide +kernel
theorem dX0_isMet_119 : decode cX0_isMet 119 = .ok (.caload, 1) := by decide +kernel
theorem dX0_isMet_120 : decode cX0_isMet 120 = .ok (.bipush 99, 2) := by decide +kernel
theorem dX0_isMet_122 : decode cX0_isMet 122 = .ok (.if_icmp .ne 7, 3) := by decide +kernel
theorem dX0_isMet_125 : decode cX0_isMet 125 = .ok (.iconst 1, 1) := by decide +kernel
theorem dX0_isMet_126 : decode cX0_isMet 126 = .ok (.goto 4, 3) := by decide +kernel
theorem dX0_isMet_129 : decode cX0_isMet 129 = .ok (.iconst 0, 1) := by decide +kernel
theorem dX0_isMet_130 : decode cX0_isMet 130 = .ok (.ireturn, 1) := by decide +kernel
theorem dX0_isMet_131 : decode cX0_isMet 131 = .ok (.iload_n 2, 1) := by decide +kernel
theorem dX0_isMet_132 : decode cX0_isMet 132 = .ok (.bipush 116, 2) := by decide +kernel
theorem dX0_isMet_134 : decode cX0_isMet 134 = .ok (.if_icmp .ne 15, 3) := by decide +kernel
theorem dX0_isMet_137 : decode cX0_isMet 137 = .ok (.aload_n 0, 1) := by decide +kernel
theorem dX0_isMet_138 : decode cX0_isMet 138 = .ok (.getfield 28, 3) := by decide +kernel
theorem dX0_isMet_141 : decode cX0_isMet 141 = .ok (.iload_n 3, 1) := by decide +kernel
theorem dX0_isMet_142 : decode cX0_isMet 142 = .ok (.if_icmp .lt 7, 3) := by decide +kernel
theorem dX0_isMet_145 : decode cX0_isMet 145 = .ok (.iconst 1, 1) := by decide +kernel
theorem dX0_isMet_146 : decode cX0_isMet 146 = .ok (.goto 4, 3) := by decide +kernel
theorem dX0_isMet_149 : decode cX0_isMet 149 = .ok (.iconst 0, 1) := by decide +kernel
theorem dX0_isMet_150 : decode cX0_isMet 150 = .ok (.ireturn, 1) := by decide +kernel
theorem dX0_valueOf_0 : decode cX0_valueOf 0 = .ok (.iload_n 1, 1) := by decide +kernel
theorem dX0_valueOf_1 : decode cX0_valueOf 1 = .ok (.invokestatic 53, 3) := by decide +kernel
theorem dX0_valueOf_4 : decode cX0_valueOf 4 = .ok (.ifCond .eq 12, 3) := by decide +kernel
theorem dX0_valueOf_7 : decode cX0_valueOf 7 = .ok (.aload_n 0, 1) := by decide +kernel
theorem dX0_valueOf_8 : decode cX0_valueOf 8 = .ok (.getfield 9, 3) := by decide +kernel
theorem dX0_valueOf_11 : decode cX0_valueOf 11 = .ok (.iload_n 1, 1) := by decide +kernel
theorem dX0_valueOf_12 : decode cX0_valueOf 12 = .ok (.iaload, 1) := by decide +kernel
theorem dX0_valueOf_13 : decode cX0_valueOf 13 = .ok (.goto 4, 3) := by decide +kernel
theorem dX0_valueOf_16 : decode cX0_valueOf 16 = .ok (.iconst 0, 1) := by decide +kernel
theorem dX0_valueOf_17 : decode cX0_valueOf 17 = .ok (.ireturn, 1) := by decide +kernel
theorem dX0_stateOf_0 : decode cX0_stateOf 0 = .ok (.iload_n 1, 1) := by decide +kernel
theorem dX0_stateOf_1 : decode cX0_stateOf 1 = .ok (.ifCond .lt 9, 3) := by decide +kernel
theorem dX0_stateOf_4 : decode cX0_stateOf 4 = .ok (.iload_n 1, 1) := by decide +kernel
theorem dX0_stateOf_5 : decode cX0_stateOf 5 = .ok (.bipush 8, 2) := by decide +kernel
theorem dX0_stateOf_7 : decode cX0_stateOf 7 = .ok (.if_icmp .lt 8, 3) := by decide +kernel
theorem dX0_stateOf_10 : decode cX0_stateOf 10 = .ok (.bipush 105, 2) := by decide +kernel
theorem dX0_stateOf_12 : decode cX0_stateOf 12 = .ok (.goto 9, 3) := by decide +kernel
theorem dX0_stateOf_15 : decode cX0_stateOf 15 = .ok (.aload_n 0, 1) := by decide +kernel
theorem dX0_stateOf_16 : decode cX0_stateOf 16 = .ok (.getfield 15, 3) := by decide +kernel
theorem dX0_stateOf_19 : decode cX0_stateOf 19 = .ok (.iload_n 1, 1) := by decide +kernel
theorem dX0_stateOf_20 : decode cX0_stateOf 20 = .ok (.caload, 1) := by decide +kernel
theorem dX0_stateOf_21 : decode cX0_stateOf 21 = .ok (.ireturn, 1) := by decide +kernel
theorem dX0_putState_0 : decode cX0_putState 0 = .ok (.iload_n 1, 1) := by decide +kernel
theorem dX0_putState_1 : decode cX0_putState 1 = .ok (.ifCond .lt 16, 3) := by decide +kernel
theorem dX0_putState_4 : decode cX0_putState 4 = .ok (.iload_n 1, 1) := by decide +kernel
theorem dX0_putState_5 : decode cX0_putState 5 = .ok (.bipush 8, 2) := by decide +kernel
theorem dX0_putState_7 : decode cX0_putState 7 = .ok (.if_icmp .ge 10, 3) := by decide +kernel
theorem dX0_putState_10 : decode cX0_putState 10 = .ok (.aload_n 0, 1) := by decide +kernel
theorem dX0_putState_11 : decode cX0_putState 11 = .ok (.getfield 15, 3) := by decide +kernel
theorem dX0_putState_14 : decode cX0_putState 14 = .ok (.iload_n 1, 1) := by decide +kernel
theorem dX0_putState_15 : decode cX0_putState 15 = .ok (.iload_n 2, 1) := by decide +kernel
theorem dX0_putState_16 : decode cX0_putState 16 = .ok (.castore, 1) := by decide +kernel
theorem dX0_putState_17 : decode cX0_putState 17 = .ok (.return_, 1) := by decide +kernel
theorem dX0_clockOf_0 : decode cX0_clockOf 0 = .ok (.iload_n 1, 1) := by decide +kernel
theorem dX0_clockOf_1 : decode cX0_clockOf 1 = .ok (.ifCond .lt 9, 3) := by decide +kernel
theorem dX0_clockOf_4 : decode cX0_clockOf 4 = .ok (.iload_n 1, 1) := by decide +kernel
theorem dX0_clockOf_5 : decode cX0_clockOf 5 = .ok (.bipush 8, 2) := by decide +kernel
theorem dX0_clockOf_7 : decode cX0_clockOf 7 = .ok (.if_icmp .lt 7, 3) := by decide +kernel
theorem dX0_clockOf_10 : decode cX0_clockOf 10 = .ok (.iconst 0, 1) := by decide +kernel
theorem dX0_clockOf_11 : decode cX0_clockOf 11 = .ok (.goto 9, 3) := by decide +kernel
theorem dX0_clockOf_14 : decode cX0_clockOf 14 = .ok (.aload_n 0, 1) := by decide +kernel
theorem dX0_clockOf_15 : decode cX0_clockOf 15 = .ok (.getfield 22, 3) := by decide +kernel
theorem dX0_clockOf_18 : decode cX0_clockOf 18 = .ok (.iload_n 1, 1) := by decide +kernel
theorem dX0_clockOf_19 : decode cX0_clockOf 19 = .ok (.iaload, 1) := by decide +kernel
theorem dX0_clockOf_20 : decode cX0_clockOf 20 = .ok (.ireturn, 1) := by decide +kernel
theorem dX0_countOf_0 : decode cX0_countOf 0 = .ok (.iload_n 1, 1) := by decide +kernel
theorem dX0_countOf_1 : decode cX0_countOf 1 = .ok (.ifCond .lt 9, 3) := by decide +kernel
theorem dX0_countOf_4 : decode cX0_countOf 4 = .ok (.iload_n 1, 1) := by decide +kernel
theorem dX0_countOf_5 : decode cX0_countOf 5 = .ok (.bipush 8, 2) := by decide +kernel
theorem dX0_countOf_7 : decode cX0_countOf 7 = .ok (.if_icmp .lt 7, 3) := by decide +kernel
theorem dX0_countOf_10 : decode cX0_countOf 10 = .ok (.iconst 0, 1) := by decide +kernel
theorem dX0_countOf_11 : decode cX0_countOf 11 = .ok (.goto 9, 3) := by decide +kernel
theorem dX0_countOf_14 : decode cX0_countOf 14 = .ok (.aload_n 0, 1) := by decide +kernel
theorem dX0_countOf_15 : decode cX0_countOf 15 = .ok (.getfield 25, 3) := by decide +kernel
theorem dX0_countOf_18 : decode cX0_countOf 18 = .ok (.iload_n 1, 1) := by decide +kernel
theorem dX0_countOf_19 : decode cX0_countOf 19 = .ok (.iaload, 1) := by decide +kernel
theorem dX0_countOf_20 : decode cX0_countOf 20 = .ok (.ireturn, 1) := by decide +kernel
theorem dX0_isActiveTask_0 : decode cX0_isActiveTask 0 = .ok (.aload_n 0, 1) := by decide +kernel
theorem dX0_isActiveTask_1 : decode cX0_isActiveTask 1 = .ok (.getfield 45, 3) := by decide +kernel
theorem dX0_isActiveTask_4 : decode cX0_isActiveTask 4 = .ok (.iload_n 1, 1) := by decide +kernel
theorem dX0_isActiveTask_5 : decode cX0_isActiveTask 5 = .ok (.invokevirtual 68, 3) := by decide +kernel
theorem dX0_isActiveTask_8 : decode cX0_isActiveTask 8 = .ok (.astore_n 2, 1) := by decide +kernel
theorem dX0_isActiveTask_9 : decode cX0_isActiveTask 9 = .ok (.aload_n 2, 1) := by decide +kernel
theorem dX0_isActiveTask_10 : decode cX0_isActiveTask 10 = .ok (.ifnull 26, 3) := by decide +kernel
theorem dX0_isActiveTask_13 : decode cX0_isActiveTask 13 = .ok (.aload_n 2, 1) := by decide +kernel
theorem dX0_isActiveTask_14 : decode cX0_isActiveTask 14 = .ok (.getfield 100, 3) := by decide +kernel
theorem dX0_isActiveTask_17 : decode cX0_isActiveTask 17 = .ok (.bipush 116, 2) := by decide +kernel
theorem dX0_isActiveTask_19 : decode cX0_isActiveTask 19 = .ok (.if_icmp .ne 17, 3) := by decide +kernel
theorem dX0_isActiveTask_22 : decode cX0_isActiveTask 22 = .ok (.aload_n 0, 1) := by decide +kernel
theorem dX0_isActiveTask_23 : decode cX0_isActiveTask 23 = .ok (.iload_n 1, 1) := by decide +kernel
theorem dX0_isActiveTask_24 : decode cX0_isActiveTask 24 = .ok (.invokevirtual 72, 3) := by decide +kernel
theorem dX0_isActiveTask_27 : decode cX0_isActiveTask 27 = .ok (.bipush 97, 2) := by decide +kernel
theorem dX0_isActiveTask_29 : decode cX0_isActiveTask 29 = .ok (.if_icmp .ne 7, 3) := by decide +kernel
theorem dX0_isActiveTask_32 : decode cX0_isActiveTask 32 = .ok (.iconst 1, 1) := by decide +kernel
theorem dX0_isActiveTask_33 : decode cX0_isActiveTask 33 = .ok (.goto 4, 3) := by decide +kernel
theorem dX0_isActiveTask_36 : decode cX0_isActiveTask 36 = .ok (.iconst 0, 1) := by decide +kernel
theorem dX0_isActiveTask_37 : decode cX0_isActiveTask 37 = .ok (.ireturn, 1) := by decide +kernel
theorem dX0_daysUntilLate_0 : decode cX0_daysUntilLate 0 = .ok (.aload_n 0, 1) := by decide +kernel
theorem dX0_daysUntilLate_1 : decode cX0_daysUntilLate 1 = .ok (.getfield 45, 3) := by decide +kernel
theorem dX0_daysUntilLate_4 : decode cX0_daysUntilLate 4 = .ok (.iload_n 1, 1) := by decide +kernel
theorem dX0_daysUntilLate_5 : decode cX0_daysUntilLate 5 = .ok (.invokevirtual 68, 3) := by decide +kernel
theorem dX0_daysUntilLate_8 : decode cX0_daysUntilLate 8 = .ok (.astore_n 2, 1) := by decide +kernel
theorem dX0_daysUntilLate_9 : decode cX0_daysUntilLate 9 = .ok (.aload_n 2, 1) := by decide +kernel
theorem dX0_daysUntilLate_10 : decode cX0_daysUntilLate 10 = .ok (.ifnonnull 7, 3) := by decide +kernel
theorem dX0_daysUntilLate_13 : decode cX0_daysUntilLate 13 = .ok (.iconst 0, 1) := by decide +kernel
theorem dX0_daysUntilLate_14 : decode cX0_daysUntilLate 14 = .ok (.goto 15, 3) := by decide +kernel
theorem dX0_daysUntilLate_17 : decode cX0_daysUntilLate 17 = .ok (.aload_n 2, 1) := by decide +kernel
theorem dX0_daysUntilLate_18 : decode cX0_daysUntilLate 18 = .ok (.getfield 141, 3) := by decide +kernel
theorem dX0_daysUntilLate_21 : decode cX0_daysUntilLate 21 = .ok (.aload_n 0, 1) := by decide +kernel
theorem dX0_daysUntilLate_22 : decode cX0_daysUntilLate 22 = .ok (.iload_n 1, 1) := by decide +kernel
theorem dX0_daysUntilLate_23 : decode cX0_daysUntilLate 23 = .ok (.invokevirtual 144, 3) := by decide +kernel
theorem dX0_daysUntilLate_26 : decode cX0_daysUntilLate 26 = .ok (.isub, 1) := by decide +kernel
theorem dX0_daysUntilLate_27 : decode cX0_daysUntilLate 27 = .ok (.iconst 1, 1) := by decide +kernel
theorem dX0_daysUntilLate_28 : decode cX0_daysUntilLate 28 = .ok (.iadd, 1) := by decide +kernel
theorem dX0_daysUntilLate_29 : decode cX0_daysUntilLate 29 = .ok (.ireturn, 1) := by decide +kernel
theorem dX0_fewestDaysUntilLate_0 : decode cX0_fewestDaysUntilLate 0 = .ok (.iconst (-1), 1) := by decide +kernel
theorem dX0_fewestDaysUntilLate_1 : decode cX0_fewestDaysUntilLate 1 = .ok (.istore_n 1, 1) := by decide +kernel
theorem dX0_fewestDaysUntilLate_2 : decode cX0_fewestDaysUntilLate 2 = .ok (.iconst 0, 1) := by decide +kernel
theorem dX0_fewestDaysUntilLate_3 : decode cX0_fewestDaysUntilLate 3 = .ok (.istore_n 2, 1) := by decide +kernel
theorem dX0_fewestDaysUntilLate_4 : decode cX0_fewestDaysUntilLate 4 = .ok (.iload_n 2, 1) := by decide +kernel
theorem dX0_fewestDaysUntilLate_5 : decode cX0_fewestDaysUntilLate 5 = .ok (.aload_n 0, 1) := by decide +kernel
theorem dX0_fewestDaysUntilLate_6 : decode cX0_fewestDaysUntilLate 6 = .ok (.getfield 45, 3) := by decide +kernel
theorem dX0_fewestDaysUntilLate_9 : decode cX0_fewestDaysUntilLate 9 = .ok (.getfield 60, 3) := by decide +kernel
theorem dX0_fewestDaysUntilLate_12 : decode cX0_fewestDaysUntilLate 12 = .ok (.if_icmp .ge 39, 3) := by decide +kernel
theorem dX0_fewestDaysUntilLate_15 : decode cX0_fewestDaysUntilLate 15 = .ok (.aload_n 0, 1) := by decide +kernel
theorem dX0_fewestDaysUntilLate_16 : decode cX0_fewestDaysUntilLate 16 = .ok (.iload_n 2, 1) := by decide +kernel
theorem dX0_fewestDaysUntilLate_17 : decode cX0_fewestDaysUntilLate 17 = .ok (.invokevirtual 148, 3) := by decide +kernel
theorem dX0_fewestDaysUntilLate_20 : decode cX0_fewestDaysUntilLate 20 = .ok (.istore_n 3, 1) := by decide +kernel
theorem dX0_fewestDaysUntilLate_21 : decode cX0_fewestDaysUntilLate 21 = .ok (.aload_n 0, 1) := by decide +kernel
theorem dX0_fewestDaysUntilLate_22 : decode cX0_fewestDaysUntilLate 22 = .ok (.iload_n 2, 1) := by decide +kernel
theorem dX0_fewestDaysUntilLate_23 : decode cX0_fewestDaysUntilLate 23 = .ok (.invokevirtual 57, 3) := by decide +kernel
theorem dX0_fewestDaysUntilLate_26 : decode cX0_fewestDaysUntilLate 26 = .ok (.ifCond .eq 19, 3) := by decide +kernel
theorem dX0_fewestDaysUntilLate_29 : decode cX0_fewestDaysUntilLate 29 = .ok (.iload_n 3, 1) := by decide +kernel
theorem dX0_fewestDaysUntilLate_30 : decode cX0_fewestDaysUntilLate 30 = .ok (.ifCond .le 15, 3) := by decide +kernel
theorem dX0_fewestDaysUntilLate_33 : decode cX0_fewestDaysUntilLate 33 = .ok (.iload_n 1, 1) := by decide +kernel
theorem dX0_fewestDaysUntilLate_34 : decode cX0_fewestDaysUntilLate 34 = .ok (.iconst (-1), 1) := by decide +kernel
theorem dX0_fewestDaysUntilLate_35 : decode cX0_fewestDaysUntilLate 35 = .ok (.if_icmp .eq 8, 3) := by decide +kernel
theorem dX0_fewestDaysUntilLate_38 : decode cX0_fewestDaysUntilLate 38 = .ok (.iload_n 3, 1) := by decide +kernel
theorem dX0_fewestDaysUntilLate_39 : decode cX0_fewestDaysUntilLate 39 = .ok (.iload_n 1, 1) := by decide +kernel
theorem dX0_fewestDaysUntilLate_40 : decode cX0_fewestDaysUntilLate 40 = .ok (.if_icmp .ge 5, 3) := by decide +kernel
theorem dX0_fewestDaysUntilLate_43 : decode cX0_fewestDaysUntilLate 43 = .ok (.iload_n 3, 1) := by decide +kernel
theorem dX0_fewestDaysUntilLate_44 : decode cX0_fewestDaysUntilLate 44 = .ok (.istore_n 1, 1) := by decide +kernel
theorem dX0_fewestDaysUntilLate_45 : decode cX0_fewestDaysUntilLate 45 = .ok (.iinc 2 1, 3) := by decide +kernel
theorem dX0_fewestDaysUntilLate_48 : decode cX0_fewestDaysUntilLate 48 = .ok (.goto (-44), 3) := by decide +kernel
theorem dX0_fewestDaysUntilLate_51 : decode cX0_fewestDaysUntilLate 51 = .ok (.iload_n 1, 1) := by decide +kernel
theorem dX0_fewestDaysUntilLate_52 : decode cX0_fewestDaysUntilLate 52 = .ok (.ireturn, 1) := by decide +kernel
theorem dX0_lateTasks_0 : decode cX0_lateTasks 0 = .ok (.iconst 0, 1) := by decide +kernel
theorem dX0_lateTasks_1 : decode cX0_lateTasks 1 = .ok (.istore_n 1, 1) := by decide +kernel
theorem dX0_lateTasks_2 : decode cX0_lateTasks 2 = .ok (.iconst 0, 1) := by decide +kernel
theorem dX0_lateTasks_3 : decode cX0_lateTasks 3 = .ok (.istore_n 2, 1) := by decide +kernel
theorem dX0_lateTasks_4 : decode cX0_lateTasks 4 = .ok (.iload_n 2, 1) := by decide +kernel
theorem dX0_lateTasks_5 : decode cX0_lateTasks 5 = .ok (.aload_n 0, 1) := by decide +kernel
theorem dX0_lateTasks_6 : decode cX0_lateTasks 6 = .ok (.getfield 45, 3) := by decide +kernel
theorem dX0_lateTasks_9 : decode cX0_lateTasks 9 = .ok (.getfield 60, 3) := by decide +kernel
theorem dX0_lateTasks_12 : decode cX0_lateTasks 12 = .ok (.if_icmp .ge 28, 3) := by decide +kernel
theorem dX0_lateTasks_15 : decode cX0_lateTasks 15 = .ok (.aload_n 0, 1) := by decide +kernel
theorem dX0_lateTasks_16 : decode cX0_lateTasks 16 = .ok (.iload_n 2, 1) := by decide +kernel
theorem dX0_lateTasks_17 : decode cX0_lateTasks 17 = .ok (.invokevirtual 57, 3) := by decide +kernel
theorem dX0_lateTasks_20 : decode cX0_lateTasks 20 = .ok (.ifCond .eq 14, 3) := by decide +kernel
theorem dX0_lateTasks_23 : decode cX0_lateTasks 23 = .ok (.aload_n 0, 1) := by decide +kernel
theorem dX0_lateTasks_24 : decode cX0_lateTasks 24 = .ok (.iload_n 2, 1) := by decide +kernel
theorem dX0_lateTasks_25 : decode cX0_lateTasks 25 = .ok (.invokevirtual 148, 3) := by decide +kernel
theorem dX0_lateTasks_28 : decode cX0_lateTasks 28 = .ok (.ifCond .gt 6, 3) := by decide +kernel
theorem dX0_lateTasks_31 : decode cX0_lateTasks 31 = .ok (.iinc 1 1, 3) := by decide +kernel
theorem dX0_lateTasks_34 : decode cX0_lateTasks 34 = .ok (.iinc 2 1, 3) := by decide +kernel
theorem dX0_lateTasks_37 : decode cX0_lateTasks 37 = .ok (.goto (-33), 3) := by decide +kernel
theorem dX0_lateTasks_40 : decode cX0_lateTasks 40 = .ok (.iload_n 1, 1) := by decide +kernel
theorem dX0_lateTasks_41 : decode cX0_lateTasks 41 = .ok (.ireturn, 1) := by decide +kernel
theorem dX0_rememberStates_0 : decode cX0_rememberStates 0 = .ok (.iconst 0, 1) := by decide +kernel
theorem dX0_rememberStates_1 : decode cX0_rememberStates 1 = .ok (.istore_n 1, 1) := by decide +kernel
theorem dX0_rememberStates_2 : decode cX0_rememberStates 2 = .ok (.iload_n 1, 1) := by decide +kernel
theorem dX0_rememberStates_3 : decode cX0_rememberStates 3 = .ok (.bipush 8, 2) := by decide +kernel
theorem dX0_rememberStates_5 : decode cX0_rememberStates 5 = .ok (.if_icmp .ge 21, 3) := by decide +kernel
theorem dX0_rememberStates_8 : decode cX0_rememberStates 8 = .ok (.aload_n 0, 1) := by decide +kernel
theorem dX0_rememberStates_9 : decode cX0_rememberStates 9 = .ok (.getfield 19, 3) := by decide +kernel
theorem dX0_rememberStates_12 : decode cX0_rememberStates 12 = .ok (.iload_n 1, 1) := by decide +kernel
theorem dX0_rememberStates_13 : decode cX0_rememberStates 13 = .ok (.aload_n 0, 1) := by decide +kernel
theorem dX0_rememberStates_14 : decode cX0_rememberStates 14 = .ok (.getfield 15, 3) := by decide +kernel
theorem dX0_rememberStates_17 : decode cX0_rememberStates 17 = .ok (.iload_n 1, 1) := by decide +kernel
theorem dX0_rememberStates_18 : decode cX0_rememberStates 18 = .ok (.caload, 1) := by decide +kernel
theorem dX0_rememberStates_19 : decode cX0_rememberStates 19 = .ok (.castore, 1) := by decide +kernel
theorem dX0_rememberStates_20 : decode cX0_rememberStates 20 = .ok (.iinc 1 1, 3) := by decide +kernel
theorem dX0_rememberStates_23 : decode cX0_rememberStates 23 = .ok (.goto (-21), 3) := by decide +kernel
theorem dX0_rememberStates_26 : decode cX0_rememberStates 26 = .ok (.return_, 1) := by decide +kernel
theorem dX0_changedStepsBut_0 : decode cX0_changedStepsBut 0 = .ok (.iconst 0, 1) := by decide +kernel
theorem dX0_changedStepsBut_1 : decode cX0_changedStepsBut 1 = .ok (.istore_n 2, 1) := by decide +kernel
theorem dX0_changedStepsBut_2 : decode cX0_changedStepsBut 2 = .ok (.iconst 0, 1) := by decide +kernel
theorem dX0_changedStepsBut_3 : decode cX0_changedStepsBut 3 = .ok (.istore_n 3, 1) := by decide +kernel
theorem dX0_changedStepsBut_4 : decode cX0_changedStepsBut 4 = .ok (.iload_n 3, 1) := by decide +kernel
theorem dX0_changedStepsBut_5 : decode cX0_changedStepsBut 5 = .ok (.bipush 8, 2) := by decide +kernel
theorem dX0_changedStepsBut_7 : decode cX0_changedStepsBut 7 = .ok (.if_icmp .ge 32, 3) := by decide +kernel
theorem dX0_changedStepsBut_10 : decode cX0_changedStepsBut 10 = .ok (.iload_n 3, 1) := by decide +kernel
theorem dX0_changedStepsBut_11 : decode cX0_changedStepsBut 11 = .ok (.iload_n 1, 1) := by decide +kernel
theorem dX0_changedStepsBut_12 : decode cX0_changedStepsBut 12 = .ok (.if_icmp .eq 21, 3) := by decide +kernel
theorem dX0_changedStepsBut_15 : decode cX0_changedStepsBut 15 = .ok (.aload_n 0, 1) := by decide +kernel
theorem dX0_changedStepsBut_16 : decode cX0_changedStepsBut 16 = .ok (.getfield 15, 3) := by decide +kernel
theorem dX0_changedStepsBut_19 : decode cX0_changedStepsBut 19 = .ok (.iload_n 3, 1) := by decide +kernel
theorem dX0_changedStepsBut_20 : decode cX0_changedStepsBut 20 = .ok (.caload, 1) := by decide +kernel
theorem dX0_changedStepsBut_21 : decode cX0_changedStepsBut 21 = .ok (.aload_n 0, 1) := by decide +kernel
theorem dX0_changedStepsBut_22 : decode cX0_changedStepsBut 22 = .ok (.getfield 19, 3) := by decide +kernel
theorem dX0_changedStepsBut_25 : decode cX0_changedStepsBut 25 = .ok (.iload_n 3, 1) := by decide +kernel
theorem dX0_changedStepsBut_26 : decode cX0_changedStepsBut 26 = .ok (.caload, 1) := by decide +kernel
theorem dX0_changedStepsBut_27 : decode cX0_changedStepsBut 27 = .ok (.if_icmp .eq 6, 3) := by decide +kernel
theorem dX0_changedStepsBut_30 : decode cX0_changedStepsBut 30 = .ok (.iinc 2 1, 3) := by decide +kernel
theorem dX0_changedStepsBut_33 : decode cX0_changedStepsBut 33 = .ok (.iinc 3 1, 3) := by decide +kernel
theorem dX0_changedStepsBut_36 : decode cX0_changedStepsBut 36 = .ok (.goto (-32), 3) := by decide +kernel
theorem dX0_changedStepsBut_39 : decode cX0_changedStepsBut 39 = .ok (.iload_n 2, 1) := by decide +kernel
theorem dX0_changedStepsBut_40 : decode cX0_changedStepsBut 40 = .ok (.ireturn, 1) := by decide +kernel
theorem dX0_stepsInState_0 : decode cX0_stepsInState 0 = .ok (.iconst 0, 1) := by decide +kernel
theorem dX0_stepsInState_1 : decode cX0_stepsInState 1 = .ok (.istore_n 2, 1) := by decide +kernel
theorem dX0_stepsInState_2 : decode cX0_stepsInState 2 = .ok (.iconst 0, 1) := by decide +kernel
theorem dX0_stepsInState_3 : decode cX0_stepsInState 3 = .ok (.istore_n 3, 1) := by decide +kernel
theorem dX0_stepsInState_4 : decode cX0_stepsInState 4 = .ok (.iload_n 3, 1) := by decide +kernel
theorem dX0_stepsInState_5 : decode cX0_stepsInState 5 = .ok (.aload_n 0, 1) := by decide +kernel
theorem dX0_stepsInState_6 : decode cX0_stepsInState 6 = .ok (.getfield 45, 3) := by decide +kernel
theorem dX0_stepsInState_9 : decode cX0_stepsInState 9 = .ok (.getfield 60, 3) := by decide +kernel
theorem dX0_stepsInState_12 : decode cX0_stepsInState 12 = .ok (.if_icmp .ge 21, 3) := by decide +kernel
theorem dX0_stepsInState_15 : decode cX0_stepsInState 15 = .ok (.aload_n 0, 1) := by decide +kernel
theorem dX0_stepsInState_16 : decode cX0_stepsInState 16 = .ok (.iload_n 3, 1) := by decide +kernel
theorem dX0_stepsInState_17 : decode cX0_stepsInState 17 = .ok (.invokevirtual 72, 3) := by decide +kernel
theorem dX0_stepsInState_20 : decode cX0_stepsInState 20 = .ok (.iload_n 1, 1) := by decide +kernel
theorem dX0_stepsInState_21 : decode cX0_stepsInState 21 = .ok (.if_icmp .ne 6, 3) := by decide +kernel
theorem dX0_stepsInState_24 : decode cX0_stepsInState 24 = .ok (.iinc 2 1, 3) := by decide +kernel
theorem dX0_stepsInState_27 : decode cX0_stepsInState 27 = .ok (.iinc 3 1, 3) := by decide +kernel
theorem dX0_stepsInState_30 : decode cX0_stepsInState 30 = .ok (.goto (-26), 3) := by decide +kernel
theorem dX0_stepsInState_33 : decode cX0_stepsInState 33 = .ok (.iload_n 2, 1) := by decide +kernel
theorem dX0_stepsInState_34 : decode cX0_stepsInState 34 = .ok (.ireturn, 1) := by decide +kernel
theorem dX0_isAtItsEnd_0 : decode cX0_isAtItsEnd 0 = .ok (.iconst 0, 1) := by decide +kernel
theorem dX0_isAtItsEnd_1 : decode cX0_isAtItsEnd 1 = .ok (.istore_n 1, 1) := by decide +kernel
theorem dX0_isAtItsEnd_2 : decode cX0_isAtItsEnd 2 = .ok (.iload_n 1, 1) := by decide +kernel
theorem dX0_isAtItsEnd_3 : decode cX0_isAtItsEnd 3 = .ok (.aload_n 0, 1) := by decide +kernel
theorem dX0_isAtItsEnd_4 : decode cX0_isAtItsEnd 4 = .ok (.getfield 45, 3) := by decide +kernel
theorem dX0_isAtItsEnd_7 : decode cX0_isAtItsEnd 7 = .ok (.getfield 60, 3) := by decide +kernel
theorem dX0_isAtItsEnd_10 : decode cX0_isAtItsEnd 10 = .ok (.if_icmp .ge 52, 3) := by decide +kernel
theorem dX0_isAtItsEnd_13 : decode cX0_isAtItsEnd 13 = .ok (.aload_n 0, 1) := by decide +kernel
theorem dX0_isAtItsEnd_14 : decode cX0_isAtItsEnd 14 = .ok (.getfield 45, 3) := by decide +kernel
theorem dX0_isAtItsEnd_17 : decode cX0_isAtItsEnd 17 = .ok (.iload_n 1, 1) := by decide +kernel
theorem dX0_isAtItsEnd_18 : decode cX0_isAtItsEnd 18 = .ok (.invokevirtual 68, 3) := by decide +kernel
theorem dX0_isAtItsEnd_21 : decode cX0_isAtItsEnd 21 = .ok (.astore_n 2, 1) := by decide +kernel
theorem dX0_isAtItsEnd_22 : decode cX0_isAtItsEnd 22 = .ok (.aload_n 2, 1) := by decide +kernel
theorem dX0_isAtItsEnd_23 : decode cX0_isAtItsEnd 23 = .ok (.ifnull 33, 3) := by decide +kernel
theorem dX0_isAtItsEnd_26 : decode cX0_isAtItsEnd 26 = .ok (.aload_n 2, 1) := by decide +kernel
theorem dX0_isAtItsEnd_27 : decode cX0_isAtItsEnd 27 = .ok (.getfield 116, 3) := by decide +kernel
theorem dX0_isAtItsEnd_30 : decode cX0_isAtItsEnd 30 = .ok (.iconst (-1), 1) := by decide +kernel
theorem dX0_isAtItsEnd_31 : decode cX0_isAtItsEnd 31 = .ok (.if_icmp .ne 25, 3) := by decide +kernel
theorem dX0_isAtItsEnd_34 : decode cX0_isAtItsEnd 34 = .ok (.aload_n 0, 1) := by decide +kernel
theorem dX0_isAtItsEnd_35 : decode cX0_isAtItsEnd 35 = .ok (.iload_n 1, 1) := by decide +kernel
theorem dX0_isAtItsEnd_36 : decode cX0_isAtItsEnd 36 = .ok (.invokevirtual 72, 3) := by decide +kernel
theorem dX0_isAtItsEnd_39 : decode cX0_isAtItsEnd 39 = .ok (.bipush 99, 2) := by decide +kernel
theorem dX0_isAtItsEnd_41 : decode cX0_isAtItsEnd 41 = .ok (.if_icmp .eq 15, 3) := by decide +kernel
theorem dX0_isAtItsEnd_44 : decode cX0_isAtItsEnd 44 = .ok (.aload_n 0, 1) := by decide +kernel
theorem dX0_isAtItsEnd_45 : decode cX0_isAtItsEnd 45 = .ok (.iload_n 1, 1) := by decide +kernel
theorem dX0_isAtItsEnd_46 : decode cX0_isAtItsEnd 46 = .ok (.invokevirtual 72, 3) := by decide +kernel
theorem dX0_isAtItsEnd_49 : decode cX0_isAtItsEnd 49 = .ok (.bipush 120, 2) := by decide +kernel
theorem dX0_isAtItsEnd_51 : decode cX0_isAtItsEnd 51 = .ok (.if_icmp .eq 5, 3) := by decide +kernel
theorem dX0_isAtItsEnd_54 : decode cX0_isAtItsEnd 54 = .ok (.iconst 0, 1) := by decide +kernel
theorem dX0_isAtItsEnd_55 : decode cX0_isAtItsEnd 55 = .ok (.ireturn, 1) := by decide +kernel
theorem dX0_isAtItsEnd_56 : decode cX0_isAtItsEnd 56 = .ok (.iinc 1 1, 3) := by decide +kernel
theorem dX0_isAtItsEnd_59 : decode cX0_isAtItsEnd 59 = .ok (.goto (-57), 3) := by decide +kernel
theorem dX0_isAtItsEnd_62 : decode cX0_isAtItsEnd 62 = .ok (.iconst 1, 1) := by decide +kernel
theorem dX0_isAtItsEnd_63 : decode cX0_isAtItsEnd 63 = .ok (.ireturn, 1) := by decide +kernel
theorem dX0_sumOfClocks_0 : decode cX0_sumOfClocks 0 = .ok (.lconst 0, 1) := by decide +kernel
theorem dX0_sumOfClocks_1 : decode cX0_sumOfClocks 1 = .ok (.lstore_n 1, 1) := by decide +kernel
theorem dX0_sumOfClocks_2 : decode cX0_sumOfClocks 2 = .ok (.iconst 0, 1) := by decide +kernel
theorem dX0_sumOfClocks_3 : decode cX0_sumOfClocks 3 = .ok (.istore_n 3, 1) := by decide +kernel
theorem dX0_sumOfClocks_4 : decode cX0_sumOfClocks 4 = .ok (.iload_n 3, 1) := by decide +kernel
theorem dX0_sumOfClocks_5 : decode cX0_sumOfClocks 5 = .ok (.aload_n 0, 1) := by decide +kernel
theorem dX0_sumOfClocks_6 : decode cX0_sumOfClocks 6 = .ok (.getfield 45, 3) := by decide +kernel
theorem dX0_sumOfClocks_9 : decode cX0_sumOfClocks 9 = .ok (.getfield 60, 3) := by decide +kernel
theorem dX0_sumOfClocks_12 : decode cX0_sumOfClocks 12 = .ok (.if_icmp .ge 18, 3) := by decide +kernel
theorem dX0_sumOfClocks_15 : decode cX0_sumOfClocks 15 = .ok (.lload_n 1, 1) := by decide +kernel
theorem dX0_sumOfClocks_16 : decode cX0_sumOfClocks 16 = .ok (.aload_n 0, 1) := by decide +kernel
theorem dX0_sumOfClocks_17 : decode cX0_sumOfClocks 17 = .ok (.iload_n 3, 1) := by decide +kernel
theorem dX0_sumOfClocks_18 : decode cX0_sumOfClocks 18 = .ok (.invokevirtual 144, 3) := by decide +kernel
theorem dX0_sumOfClocks_21 : decode cX0_sumOfClocks 21 = .ok (.i2l, 1) := by decide +kernel
theorem dX0_sumOfClocks_22 : decode cX0_sumOfClocks 22 = .ok (.ladd, 1) := by decide +kernel
theorem dX0_sumOfClocks_23 : decode cX0_sumOfClocks 23 = .ok (.lstore_n 1, 1) := by decide +kernel
theorem dX0_sumOfClocks_24 : decode cX0_sumOfClocks 24 = .ok (.iinc 3 1, 3) := by decide +kernel
theorem dX0_sumOfClocks_27 : decode cX0_sumOfClocks 27 = .ok (.goto (-23), 3) := by decide +kernel
theorem dX0_sumOfClocks_30 : decode cX0_sumOfClocks 30 = .ok (.lload_n 1, 1) := by decide +kernel
theorem dX0_sumOfClocks_31 : decode cX0_sumOfClocks 31 = .ok (.lreturn, 1) := by decide +kernel
theorem dX1_init_0 : decode cX1_init 0 = .ok (.aload_n 0, 1) := by decide +kernel
theorem dX1_init_1 : decode cX1_init 1 = .ok (.invokespecial 1, 3) := by decide +kernel
theorem dX1_init_4 : decode cX1_init 4 = .ok (.aload_n 0, 1) := by decide +kernel
theorem dX1_init_5 : decode cX1_init 5 = .ok (.iload_n 1, 1) := by decide +kernel
theorem dX1_init_6 : decode cX1_init 6 = .ok (.putfield 7, 3) := by decide +kernel
theorem dX1_init_9 : decode cX1_init 9 = .ok (.aload_n 0, 1) := by decide +kernel
theorem dX1_init_10 : decode cX1_init 10 = .ok (.iload_n 2, 1) := by decide +kernel
theorem dX1_init_11 : decode cX1_init 11 = .ok (.putfield 13, 3) := by decide +kernel
theorem dX1_init_14 : decode cX1_init 14 = .ok (.aload_n 0, 1) := by decide +kernel
theorem dX1_init_15 : decode cX1_init 15 = .ok (.iload_n 3, 1) := by decide +kernel
theorem dX1_init_16 : decode cX1_init 16 = .ok (.putfield 17, 3) := by decide +kernel
theorem dX1_init_19 : decode cX1_init 19 = .ok (.return_, 1) := by decide +kernel
theorem dX2_init_0 : decode cX2_init 0 = .ok (.aload_n 0, 1) := by decide +kernel
theorem dX2_init_1 : decode cX2_init 1 = .ok (.invokespecial 3, 3) := by decide +kernel
theorem dX2_init_4 : decode cX2_init 4 = .ok (.aload_n 0, 1) := by decide +kernel
theorem dX2_init_5 : decode cX2_init 5 = .ok (.iconst 3, 1) := by decide +kernel
theorem dX2_init_6 : decode cX2_init 6 = .ok (.anewarray 9, 3) := by decide +kernel
theorem dX2_init_9 : decode cX2_init 9 = .ok (.putfield 11, 3) := by decide +kernel
theorem dX2_init_12 : decode cX2_init 12 = .ok (.aload_n 0, 1) := by decide +kernel
theorem dX2_init_13 : decode cX2_init 13 = .ok (.iconst 0, 1) := by decide +kernel
theorem dX2_init_14 : decode cX2_init 14 = .ok (.putfield 17, 3) := by decide +kernel
theorem dX2_init_17 : decode cX2_init 17 = .ok (.return_, 1) := by decide +kernel
theorem dX2_append_0 : decode cX2_append 0 = .ok (.aload_n 0, 1) := by decide +kernel
theorem dX2_append_1 : decode cX2_append 1 = .ok (.getfield 17, 3) := by decide +kernel
theorem dX2_append_4 : decode cX2_append 4 = .ok (.ifCond .lt 31, 3) := by decide +kernel
theorem dX2_append_7 : decode cX2_append 7 = .ok (.aload_n 0, 1) := by decide +kernel
theorem dX2_append_8 : decode cX2_append 8 = .ok (.getfield 17, 3) := by decide +kernel
theorem dX2_append_11 : decode cX2_append 11 = .ok (.iconst 3, 1) := by decide +kernel
theorem dX2_append_12 : decode cX2_append 12 = .ok (.if_icmp .ge 23, 3) := by decide +kernel
theorem dX2_append_15 : decode cX2_append 15 = .ok (.aload_n 0, 1) := by decide +kernel
theorem dX2_append_16 : decode cX2_append 16 = .ok (.getfield 11, 3) := by decide +kernel
theorem dX2_append_19 : decode cX2_append 19 = .ok (.aload_n 0, 1) := by decide +kernel
theorem dX2_append_20 : decode cX2_append 20 = .ok (.getfield 17, 3) := by decide +kernel
theorem dX2_append_23 : decode cX2_append 23 = .ok (.aload_n 1, 1) := by decide +kernel
theorem dX2_append_24 : decode cX2_append 24 = .ok (.aastore, 1) := by decide +kernel
theorem dX2_append_25 : decode cX2_append 25 = .ok (.aload_n 0, 1) := by decide +kernel
theorem dX2_append_26 : decode cX2_append 26 = .ok (.dup, 1) := by decide +kernel
theorem dX2_append_27 : decode cX2_append 27 = .ok (.getfield 17, 3) := by decide +kernel
theorem dX2_append_30 : decode cX2_append 30 = .ok (.iconst 1, 1) := by decide +kernel
theorem dX2_append_31 : decode cX2_append 31 = .ok (.iadd, 1) := by decide +kernel
theorem dX2_append_32 : decode cX2_append 32 = .ok (.putfield 17, 3) := by decide +kernel
theorem dX2_append_35 : decode cX2_append 35 = .ok (.aload_n 0, 1) := by decide +kernel
theorem dX2_append_36 : decode cX2_append 36 = .ok (.getfield 17, 3) := by decide +kernel
theorem dX2_append_39 : decode cX2_append 39 = .ok (.ireturn, 1) := by decide +kernel
theorem dX2_at_0 : decode cX2_at 0 = .ok (.iload_n 1, 1) := by decide +kernel
theorem dX2_at_1 : decode cX2_at 1 = .ok (.ifCond .lt 16, 3) := by decide +kernel
theorem dX2_at_4 : decode cX2_at 4 = .ok (.iload_n 1, 1) := by decide +kernel
theorem dX2_at_5 : decode cX2_at 5 = .ok (.aload_n 0, 1) := by decide +kernel
theorem dX2_at_6 : decode cX2_at 6 = .ok (.getfield 17, 3) := by decide +kernel
theorem dX2_at_9 : decode cX2_at 9 = .ok (.if_icmp .ge 8, 3) := by decide +kernel
theorem dX2_at_12 : decode cX2_at 12 = .ok (.iload_n 1, 1) := by decide +kernel
theorem dX2_at_13 : decode cX2_at 13 = .ok (.iconst 3, 1) := by decide +kernel
theorem dX2_at_14 : decode cX2_at 14 = .ok (.if_icmp .lt 7, 3) := by decide +kernel
theorem dX2_at_17 : decode cX2_at 17 = .ok (.aconst_null, 1) := by decide +kernel
theorem dX2_at_18 : decode cX2_at 18 = .ok (.goto 9, 3) := by decide +kernel
theorem dX2_at_21 : decode cX2_at 21 = .ok (.aload_n 0, 1) := by decide +kernel
theorem dX2_at_22 : decode cX2_at 22 = .ok (.getfield 11, 3) := by decide +kernel
theorem dX2_at_25 : decode cX2_at 25 = .ok (.iload_n 1, 1) := by decide +kernel
theorem dX2_at_26 : decode cX2_at 26 = .ok (.aaload, 1) := by decide +kernel
theorem dX2_at_27 : decode cX2_at 27 = .ok (.areturn, 1) := by decide +kernel
theorem dX3_init_0 : decode cX3_init 0 = .ok (.aload_n 0, 1) := by decide +kernel
theorem dX3_init_1 : decode cX3_init 1 = .ok (.invokespecial 3, 3) := by decide +kernel
theorem dX3_init_4 : decode cX3_init 4 = .ok (.aload_n 0, 1) := by decide +kernel
theorem dX3_init_5 : decode cX3_init 5 = .ok (.sipush 512, 3) := by decide +kernel
theorem dX3_init_8 : decode cX3_init 8 = .ok (.newarray .int, 2) := by decide +kernel
theorem dX3_init_10 : decode cX3_init 10 = .ok (.putfield 9, 3) := by decide +kernel
theorem dX3_init_13 : decode cX3_init 13 = .ok (.aload_n 0, 1) := by decide +kernel
theorem dX3_init_14 : decode cX3_init 14 = .ok (.sipush 512, 3) := by decide +kernel
theorem dX3_init_17 : decode cX3_init 17 = .ok (.newarray .int, 2) := by decide +kernel
theorem dX3_init_19 : decode cX3_init 19 = .ok (.putfield 15, 3) := by decide +kernel
theorem dX3_init_22 : decode cX3_init 22 = .ok (.aload_n 0, 1) := by decide +kernel
theorem dX3_init_23 : decode cX3_init 23 = .ok (.sipush 512, 3) := by decide +kernel
theorem dX3_init_26 : decode cX3_init 26 = .ok (.newarray .int, 2) := by decide +kernel
theorem dX3_init_28 : decode cX3_init 28 = .ok (.putfield 18, 3) := by decide +kernel
theorem dX3_init_31 : decode cX3_init 31 = .ok (.aload_n 0, 1) := by decide +kernel
theorem dX3_init_32 : decode cX3_init 32 = .ok (.sipush 512, 3) := by decide +kernel
theorem dX3_init_35 : decode cX3_init 35 = .ok (.newarray .int, 2) := by decide +kernel
theorem dX3_init_37 : decode cX3_init 37 = .ok (.putfield 21, 3) := by decide +kernel
theorem dX3_init_40 : decode cX3_init 40 = .ok (.aload_n 0, 1) := by decide +kernel
theorem dX3_init_41 : decode cX3_init 41 = .ok (.iconst 0, 1) := by decide +kernel
theorem dX3_init_42 : decode cX3_init 42 = .ok (.putfield 24, 3) := by decide +kernel
theorem dX3_init_45 : decode cX3_init 45 = .ok (.return_, 1) := by decide +kernel
theorem dX3_append_0 : decode cX3_append 0 = .ok (.aload_n 0, 1) := by decide +kernel
theorem dX3_append_1 : decode cX3_append 1 = .ok (.getfield 24, 3) := by decide +kernel
theorem dX3_append_4 : decode cX3_append 4 = .ok (.ifCond .lt 13, 3) := by decide +kernel
theorem dX3_append_7 : decode cX3_append 7 = .ok (.aload_n 0, 1) := by decide +kernel
theorem dX3_append_8 : decode cX3_append 8 = .ok (.getfield 24, 3) := by decide +kernel
theorem dX3_append_11 : decode cX3_append 11 = .ok (.sipush 512, 3) := by decide +kernel
theorem dX3_append_14 : decode cX3_append 14 = .ok (.if_icmp .lt 4, 3) := by decide +kernel
theorem dX3_append_17 : decode cX3_append 17 = .ok (.return_, 1) := by decide +kernel
theorem dX3_append_18 : decode cX3_append 18 = .ok (.aload_n 0, 1) := by decide +kernel
theorem dX3_append_19 : decode cX3_append 19 = .ok (.getfield 9, 3) := by decide +kernel
theorem dX3_append_22 : decode cX3_append 22 = .ok (.aload_n 0, 1) := by decide +kernel
theorem dX3_append_23 : decode cX3_append 23 = .ok (.getfield 24, 3) := by decide +kernel
theorem dX3_append_26 : decode cX3_append 26 = .ok (.iload_n 1, 1) := by decide +kernel
theorem dX3_append_27 : decode cX3_append 27 = .ok (.iastore, 1) := by decide +kernel
theorem dX3_append_28 : decode cX3_append 28 = .ok (.aload_n 0, 1) := by decide +kernel
theorem dX3_append_29 : decode cX3_append 29 = .ok (.getfield 15, 3) := by decide +kernel
theorem dX3_append_32 : decode cX3_append 32 = .ok (.aload_n 0, 1) := by decide +kernel
theorem dX3_append_33 : decode cX3_append 33 = .ok (.getfield 24, 3) := by decide +kernel
theorem dX3_append_36 : decode cX3_append 36 = .ok (.iload_n 2, 1) := by decide +kernel
theorem dX3_append_37 : decode cX3_append 37 = .ok (.iastore, 1) := by decide +kernel
theorem dX3_append_38 : decode cX3_append 38 = .ok (.aload_n 0, 1) := by decide +kernel
theorem dX3_append_39 : decode cX3_append 39 = .ok (.getfield 18, 3) := by decide +kernel
theorem dX3_append_42 : decode cX3_append 42 = .ok (.aload_n 0, 1) := by decide +kernel
theorem dX3_append_43 : decode cX3_append 43 = .ok (.getfield 24, 3) := by decide +kernel
theorem dX3_append_46 : decode cX3_append 46 = .ok (.iload_n 3, 1) := by decide +kernel
theorem dX3_append_47 : decode cX3_append 47 = .ok (.iastore, 1) := by decide +kernel
theorem dX3_append_48 : decode cX3_append 48 = .ok (.aload_n 0, 1) := by decide +kernel
theorem dX3_append_49 : decode cX3_append 49 = .ok (.getfield 21, 3) := by decide +kernel
theorem dX3_append_52 : decode cX3_append 52 = .ok (.aload_n 0, 1) := by decide +kernel
theorem dX3_append_53 : decode cX3_append 53 = .ok (.getfield 24, 3) := by decide +kernel
theorem dX3_append_56 : decode cX3_append 56 = .ok (.iload 4, 2) := by decide +kernel
theorem dX3_append_58 : decode cX3_append 58 = .ok (.iastore, 1) := by decide +kernel
theorem dX3_append_59 : decode cX3_append 59 = .ok (.aload_n 0, 1) := by decide +kernel
theorem dX3_append_60 : decode cX3_append 60 = .ok (.dup, 1) := by decide +kernel
theorem dX3_append_61 : decode cX3_append 61 = .ok (.getfield 24, 3) := by decide +kernel
theorem dX3_append_64 : decode cX3_append 64 = .ok (.iconst 1, 1) := by decide +kernel
theorem dX3_append_65 : decode cX3_append 65 = .ok (.iadd, 1) := by decide +kernel
theorem dX3_append_66 : decode cX3_append 66 = .ok (.putfield 24, 3) := by decide +kernel
theorem dX3_append_69 : decode cX3_append 69 = .ok (.return_, 1) := by decide +kernel
theorem dX4_init_0 : decode cX4_init 0 = .ok (.aload_n 0, 1) := by decide +kernel
theorem dX4_init_1 : decode cX4_init 1 = .ok (.invokespecial 3, 3) := by decide +kernel
theorem dX4_init_4 : decode cX4_init 4 = .ok (.aload_n 0, 1) := by decide +kernel
theorem dX4_init_5 : decode cX4_init 5 = .ok (.bipush 8, 2) := by decide +kernel
theorem dX4_init_7 : decode cX4_init 7 = .ok (.anewarray 9, 3) := by decide +kernel
theorem dX4_init_10 : decode cX4_init 10 = .ok (.putfield 11, 3) := by decide +kernel
theorem dX4_init_13 : decode cX4_init 13 = .ok (.aload_n 0, 1) := by decide +kernel
theorem dX4_init_14 : decode cX4_init 14 = .ok (.iconst 0, 1) := by decide +kernel
theorem dX4_init_15 : decode cX4_init 15 = .ok (.putfield 17, 3) := by decide +kernel
theorem dX4_init_18 : decode cX4_init 18 = .ok (.aload_n 0, 1) := by decide +kernel
theorem dX4_init_19 : decode cX4_init 19 = .ok (.iconst 0, 1) := by decide +kernel
theorem dX4_init_20 : decode cX4_init 20 = .ok (.putfield 21, 3) := by decide +kernel
theorem dX4_init_23 : decode cX4_init 23 = .ok (.aload_n 0, 1) := by decide +kernel
theorem dX4_init_24 : decode cX4_init 24 = .ok (.iload_n 1, 1) := by decide +kernel
theorem dX4_init_25 : decode cX4_init 25 = .ok (.putfield 25, 3) := by decide +kernel
theorem dX4_init_28 : decode cX4_init 28 = .ok (.return_, 1) := by decide +kernel
theorem dX4_append_0 : decode cX4_append 0 = .ok (.aload_n 0, 1) := by decide +kernel
theorem dX4_append_1 : decode cX4_append 1 = .ok (.getfield 17, 3) := by decide +kernel
theorem dX4_append_4 : decode cX4_append 4 = .ok (.istore_n 2, 1) := by decide +kernel
theorem dX4_append_5 : decode cX4_append 5 = .ok (.iload_n 2, 1) := by decide +kernel
theorem dX4_append_6 : decode cX4_append 6 = .ok (.ifCond .lt 23, 3) := by decide +kernel
theorem dX4_append_9 : decode cX4_append 9 = .ok (.iload_n 2, 1) := by decide +kernel
theorem dX4_append_10 : decode cX4_append 10 = .ok (.bipush 8, 2) := by decide +kernel
theorem dX4_append_12 : decode cX4_append 12 = .ok (.if_icmp .ge 17, 3) := by decide +kernel
theorem dX4_append_15 : decode cX4_append 15 = .ok (.aload_n 0, 1) := by decide +kernel
theorem dX4_append_16 : decode cX4_append 16 = .ok (.getfield 11, 3) := by decide +kernel
theorem dX4_append_19 : decode cX4_append 19 = .ok (.iload_n 2, 1) := by decide +kernel
theorem dX4_append_20 : decode cX4_append 20 = .ok (.aload_n 1, 1) := by decide +kernel
theorem dX4_append_21 : decode cX4_append 21 = .ok (.aastore, 1) := by decide +kernel
theorem dX4_append_22 : decode cX4_append 22 = .ok (.aload_n 0, 1) := by decide +kernel
theorem dX4_append_23 : decode cX4_append 23 = .ok (.iload_n 2, 1) := by decide +kernel
theorem dX4_append_24 : decode cX4_append 24 = .ok (.iconst 1, 1) := by decide +kernel
theorem dX4_append_25 : decode cX4_append 25 = .ok (.iadd, 1) := by decide +kernel
theorem dX4_append_26 : decode cX4_append 26 = .ok (.putfield 17, 3) := by decide +kernel
theorem dX4_append_29 : decode cX4_append 29 = .ok (.iload_n 2, 1) := by decide +kernel
theorem dX4_append_30 : decode cX4_append 30 = .ok (.ireturn, 1) := by decide +kernel
theorem dX4_stepAt_0 : decode cX4_stepAt 0 = .ok (.iload_n 1, 1) := by decide +kernel
theorem dX4_stepAt_1 : decode cX4_stepAt 1 = .ok (.ifCond .lt 17, 3) := by decide +kernel
theorem dX4_stepAt_4 : decode cX4_stepAt 4 = .ok (.iload_n 1, 1) := by decide +kernel
theorem dX4_stepAt_5 : decode cX4_stepAt 5 = .ok (.aload_n 0, 1) := by decide +kernel
theorem dX4_stepAt_6 : decode cX4_stepAt 6 = .ok (.getfield 17, 3) := by decide +kernel
theorem dX4_stepAt_9 : decode cX4_stepAt 9 = .ok (.if_icmp .ge 9, 3) := by decide +kernel
theorem dX4_stepAt_12 : decode cX4_stepAt 12 = .ok (.iload_n 1, 1) := by decide +kernel
theorem dX4_stepAt_13 : decode cX4_stepAt 13 = .ok (.bipush 8, 2) := by decide +kernel
theorem dX4_stepAt_15 : decode cX4_stepAt 15 = .ok (.if_icmp .lt 7, 3) := by decide +kernel
theorem dX4_stepAt_18 : decode cX4_stepAt 18 = .ok (.aconst_null, 1) := by decide +kernel
theorem dX4_stepAt_19 : decode cX4_stepAt 19 = .ok (.goto 9, 3) := by decide +kernel
theorem dX4_stepAt_22 : decode cX4_stepAt 22 = .ok (.aload_n 0, 1) := by decide +kernel
theorem dX4_stepAt_23 : decode cX4_stepAt 23 = .ok (.getfield 11, 3) := by decide +kernel
theorem dX4_stepAt_26 : decode cX4_stepAt 26 = .ok (.iload_n 1, 1) := by decide +kernel
theorem dX4_stepAt_27 : decode cX4_stepAt 27 = .ok (.aaload, 1) := by decide +kernel
theorem dX4_stepAt_28 : decode cX4_stepAt 28 = .ok (.areturn, 1) := by decide +kernel
theorem dX4_isStage_0 : decode cX4_isStage 0 = .ok (.aload_n 0, 1) := by decide +kernel
theorem dX4_isStage_1 : decode cX4_isStage 1 = .ok (.iload_n 1, 1) := by decide +kernel
theorem dX4_isStage_2 : decode cX4_isStage 2 = .ok (.invokevirtual 28, 3) := by decide +kernel
theorem dX4_isStage_5 : decode cX4_isStage 5 = .ok (.astore_n 2, 1) := by decide +kernel
theorem dX4_isStage_6 : decode cX4_isStage 6 = .ok (.aload_n 2, 1) := by decide +kernel
theorem dX4_isStage_7 : decode cX4_isStage 7 = .ok (.ifnull 16, 3) := by decide +kernel
theorem dX4_isStage_10 : decode cX4_isStage 10 = .ok (.aload_n 2, 1) := by decide +kernel
theorem dX4_isStage_11 : decode cX4_isStage 11 = .ok (.getfield 32, 3) := by decide +kernel
theorem dX4_isStage_14 : decode cX4_isStage 14 = .ok (.bipush 115, 2) := by decide +kernel
theorem dX4_isStage_16 : decode cX4_isStage 16 = .ok (.if_icmp .ne 7, 3) := by decide +kernel
theorem dX4_isStage_19 : decode cX4_isStage 19 = .ok (.iconst 1, 1) := by decide +kernel
theorem dX4_isStage_20 : decode cX4_isStage 20 = .ok (.goto 4, 3) := by decide +kernel
theorem dX4_isStage_23 : decode cX4_isStage 23 = .ok (.iconst 0, 1) := by decide +kernel
theorem dX4_isStage_24 : decode cX4_isStage 24 = .ok (.ireturn, 1) := by decide +kernel
theorem dX5_init_0 : decode cX5_init 0 = .ok (.aload_n 0, 1) := by decide +kernel
theorem dX5_init_1 : decode cX5_init 1 = .ok (.invokespecial 3, 3) := by decide +kernel
theorem dX5_init_4 : decode cX5_init 4 = .ok (.aload_n 0, 1) := by decide +kernel
theorem dX5_init_5 : decode cX5_init 5 = .ok (.new 9, 3) := by decide +kernel
theorem dX5_init_8 : decode cX5_init 8 = .ok (.dup, 1) := by decide +kernel
theorem dX5_init_9 : decode cX5_init 9 = .ok (.invokespecial 11, 3) := by decide +kernel
theorem dX5_init_12 : decode cX5_init 12 = .ok (.putfield 12, 3) := by decide +kernel
theorem dX5_init_15 : decode cX5_init 15 = .ok (.aload_n 0, 1) := by decide +kernel
theorem dX5_init_16 : decode cX5_init 16 = .ok (.new 9, 3) := by decide +kernel
theorem dX5_init_19 : decode cX5_init 19 = .ok (.dup, 1) := by decide +kernel
theorem dX5_init_20 : decode cX5_init 20 = .ok (.invokespecial 11, 3) := by decide +kernel
theorem dX5_init_23 : decode cX5_init 23 = .ok (.putfield 18, 3) := by decide +kernel
theorem dX5_init_26 : decode cX5_init 26 = .ok (.aload_n 0, 1) := by decide +kernel
theorem dX5_init_27 : decode cX5_init 27 = .ok (.iconst 1, 1) := by decide +kernel
theorem dX5_init_28 : decode cX5_init 28 = .ok (.putfield 21, 3) := by decide +kernel
theorem dX5_init_31 : decode cX5_init 31 = .ok (.aload_n 0, 1) := by decide +kernel
theorem dX5_init_32 : decode cX5_init 32 = .ok (.bipush 10, 2) := by decide +kernel
theorem dX5_init_34 : decode cX5_init 34 = .ok (.putfield 25, 3) := by decide +kernel
theorem dX5_init_37 : decode cX5_init 37 = .ok (.aload_n 0, 1) := by decide +kernel
theorem dX5_init_38 : decode cX5_init 38 = .ok (.iconst 0, 1) := by decide +kernel
theorem dX5_init_39 : decode cX5_init 39 = .ok (.putfield 29, 3) := by decide +kernel
theorem dX5_init_42 : decode cX5_init 42 = .ok (.aload_n 0, 1) := by decide +kernel
theorem dX5_init_43 : decode cX5_init 43 = .ok (.iload_n 1, 1) := by decide +kernel
theorem dX5_init_44 : decode cX5_init 44 = .ok (.putfield 32, 3) := by decide +kernel
theorem dX5_init_47 : decode cX5_init 47 = .ok (.aload_n 0, 1) := by decide +kernel
theorem dX5_init_48 : decode cX5_init 48 = .ok (.iload_n 2, 1) := by decide +kernel
theorem dX5_init_49 : decode cX5_init 49 = .ok (.putfield 36, 3) := by decide +kernel
theorem dX5_init_52 : decode cX5_init 52 = .ok (.return_, 1) := by decide +kernel
theorem dX6_init_0 : decode cX6_init 0 = .ok (.aload_n 0, 1) := by decide +kernel
theorem dX6_init_1 : decode cX6_init 1 = .ok (.invokespecial 1, 3) := by decide +kernel
theorem dX6_init_4 : decode cX6_init 4 = .ok (.aload_n 0, 1) := by decide +kernel
theorem dX6_init_5 : decode cX6_init 5 = .ok (.iconst 3, 1) := by decide +kernel
theorem dX6_init_6 : decode cX6_init 6 = .ok (.anewarray 9, 3) := by decide +kernel
theorem dX6_init_9 : decode cX6_init 9 = .ok (.putfield 11, 3) := by decide +kernel
theorem dX6_init_12 : decode cX6_init 12 = .ok (.aload_n 0, 1) := by decide +kernel
theorem dX6_init_13 : decode cX6_init 13 = .ok (.iconst 0, 1) := by decide +kernel
theorem dX6_init_14 : decode cX6_init 14 = .ok (.putfield 15, 3) := by decide +kernel
theorem dX6_init_17 : decode cX6_init 17 = .ok (.aload_n 0, 1) := by decide +kernel
theorem dX6_init_18 : decode cX6_init 18 = .ok (.iconst 4, 1) := by decide +kernel
theorem dX6_init_19 : decode cX6_init 19 = .ok (.anewarray 19, 3) := by decide +kernel
theorem dX6_init_22 : decode cX6_init 22 = .ok (.putfield 21, 3) := by decide +kernel
theorem dX6_init_25 : decode cX6_init 25 = .ok (.aload_n 0, 1) := by decide +kernel
theorem dX6_init_26 : decode cX6_init 26 = .ok (.iconst 0, 1) := by decide +kernel
theorem dX6_init_27 : decode cX6_init 27 = .ok (.putfield 25, 3) := by decide +kernel
theorem dX6_init_30 : decode cX6_init 30 = .ok (.aload_n 0, 1) := by decide +kernel
theorem dX6_init_31 : decode cX6_init 31 = .ok (.new 28, 3) := by decide +kernel
theorem dX6_init_34 : decode cX6_init 34 = .ok (.dup, 1) := by decide +kernel
theorem dX6_init_35 : decode cX6_init 35 = .ok (.invokespecial 30, 3) := by decide +kernel
theorem dX6_init_38 : decode cX6_init 38 = .ok (.putfield 31, 3) := by decide +kernel
theorem dX6_init_41 : decode cX6_init 41 = .ok (.aload_n 0, 1) := by decide +kernel
theorem dX6_init_42 : decode cX6_init 42 = .ok (.new 19, 3) := by decide +kernel
theorem dX6_init_45 : decode cX6_init 45 = .ok (.dup, 1) := by decide +kernel
theorem dX6_init_46 : decode cX6_init 46 = .ok (.new 9, 3) := by decide +kernel
theorem dX6_init_49 : decode cX6_init 49 = .ok (.dup, 1) := by decide +kernel
theorem dX6_init_50 : decode cX6_init 50 = .ok (.iconst (-1), 1) := by decide +kernel
theorem dX6_init_51 : decode cX6_init 51 = .ok (.invokespecial 35, 3) := by decide +kernel
theorem dX6_init_54 : decode cX6_init 54 = .ok (.invokespecial 38, 3) := by decide +kernel
theorem dX6_init_57 : decode cX6_init 57 = .ok (.putfield 41, 3) := by decide +kernel
theorem dX6_init_60 : decode cX6_init 60 = .ok (.return_, 1) := by decide +kernel
theorem dX6_addPlan_0 : decode cX6_addPlan 0 = .ok (.aload_n 0, 1) := by decide +kernel
theorem dX6_addPlan_1 : decode cX6_addPlan 1 = .ok (.getfield 15, 3) := by decide +kernel
theorem dX6_addPlan_4 : decode cX6_addPlan 4 = .ok (.ifCond .lt 11, 3) := by decide +kernel
theorem dX6_addPlan_7 : decode cX6_addPlan 7 = .ok (.aload_n 0, 1) := by decide +kernel
theorem dX6_addPlan_8 : decode cX6_addPlan 8 = .ok (.getfield 15, 3) := by decide +kernel
theorem dX6_addPlan_11 : decode cX6_addPlan 11 = .ok (.iconst 3, 1) := by decide +kernel
theorem dX6_addPlan_12 : decode cX6_addPlan 12 = .ok (.if_icmp .lt 13, 3) := by decide +kernel
theorem dX6_addPlan_15 : decode cX6_addPlan 15 = .ok (.new 45, 3) := by decide +kernel
theorem dX6_addPlan_18 : decode cX6_addPlan 18 = .ok (.dup, 1) := by decide +kernel
theorem dX6_addPlan_19 : decode cX6_addPlan 19 = .ok (.ldc 47, 2) := by decide +kernel
theorem dX6_addPlan_21 : decode cX6_addPlan 21 = .ok (.invokespecial 49, 3) := by decide +kernel
theorem dX6_addPlan_24 : decode cX6_addPlan 24 = .ok (.athrow, 1) := by decide +kernel
theorem dX6_addPlan_25 : decode cX6_addPlan 25 = .ok (.aload_n 0, 1) := by decide +kernel
theorem dX6_addPlan_26 : decode cX6_addPlan 26 = .ok (.getfield 15, 3) := by decide +kernel
theorem dX6_addPlan_29 : decode cX6_addPlan 29 = .ok (.istore_n 1, 1) := by decide +kernel
theorem dX6_addPlan_30 : decode cX6_addPlan 30 = .ok (.aload_n 0, 1) := by decide +kernel
theorem dX6_addPlan_31 : decode cX6_addPlan 31 = .ok (.getfield 11, 3) := by decide +kernel
theorem dX6_addPlan_34 : decode cX6_addPlan 34 = .ok (.iload_n 1, 1) := by decide +kernel
theorem dX6_addPlan_35 : decode cX6_addPlan 35 = .ok (.new 9, 3) := by decide +kernel
theorem dX6_addPlan_38 : decode cX6_addPlan 38 = .ok (.dup, 1) := by decide +kernel
theorem dX6_addPlan_39 : decode cX6_addPlan 39 = .ok (.iload_n 1, 1) := by decide +kernel
theorem dX6_addPlan_40 : decode cX6_addPlan 40 = .ok (.invokespecial 35, 3) := by decide +kernel
theorem dX6_addPlan_43 : decode cX6_addPlan 43 = .ok (.aastore, 1) := by decide +kernel
theorem dX6_addPlan_44 : decode cX6_addPlan 44 = .ok (.aload_n 0, 1) := by decide +kernel
theorem dX6_addPlan_45 : decode cX6_addPlan 45 = .ok (.iload_n 1, 1) := by decide +kernel
theorem dX6_addPlan_46 : decode cX6_addPlan 46 = .ok (.iconst 1, 1) := by decide +kernel
theorem dX6_addPlan_47 : decode cX6_addPlan 47 = .ok (.iadd, 1) := by decide +kernel
theorem dX6_addPlan_48 : decode cX6_addPlan 48 = .ok (.putfield 15, 3) := by decide +kernel
theorem dX6_addPlan_51 : decode cX6_addPlan 51 = .ok (.iload_n 1, 1) := by decide +kernel
theorem dX6_addPlan_52 : decode cX6_addPlan 52 = .ok (.ireturn, 1) := by decide +kernel
theorem dX6_addStep_0 : decode cX6_addStep 0 = .ok (.aload_n 0, 1) := by decide +kernel
theorem dX6_addStep_1 : decode cX6_addStep 1 = .ok (.iload_n 1, 1) := by decide +kernel
theorem dX6_addStep_2 : decode cX6_addStep 2 = .ok (.invokevirtual 52, 3) := by decide +kernel
theorem dX6_addStep_5 : decode cX6_addStep 5 = .ok (.astore 4, 2) := by decide +kernel
theorem dX6_addStep_7 : decode cX6_addStep 7 = .ok (.iload_n 2, 1) := by decide +kernel
theorem dX6_addStep_8 : decode cX6_addStep 8 = .ok (.bipush 115, 2) := by decide +kernel
theorem dX6_addStep_10 : decode cX6_addStep 10 = .ok (.if_icmp .eq 25, 3) := by decide +kernel
theorem dX6_addStep_13 : decode cX6_addStep 13 = .ok (.iload_n 2, 1) := by decide +kernel
theorem dX6_addStep_14 : decode cX6_addStep 14 = .ok (.bipush 116, 2) := by decide +kernel
theorem dX6_addStep_16 : decode cX6_addStep 16 = .ok (.if_icmp .eq 19, 3) := by decide +kernel
theorem dX6_addStep_19 : decode cX6_addStep 19 = .ok (.iload_n 2, 1) := by decide +kernel
theorem dX6_addStep_20 : decode cX6_addStep 20 = .ok (.bipush 109, 2) := by decide +kernel
theorem dX6_addStep_22 : decode cX6_addStep 22 = .ok (.if_icmp .eq 13, 3) := by decide +kernel
theorem dX6_addStep_25 : decode cX6_addStep 25 = .ok (.new 56, 3) := by decide +kernel
theorem dX6_addStep_28 : decode cX6_addStep 28 = .ok (.dup, 1) := by decide +kernel
theorem dX6_addStep_29 : decode cX6_addStep 29 = .ok (.ldc 58, 2) := by decide +kernel
theorem dX6_addStep_31 : decode cX6_addStep 31 = .ok (.invokespecial 60, 3) := by decide +kernel
theorem dX6_addStep_34 : decode cX6_addStep 34 = .ok (.athrow, 1) := by decide +kernel
theorem dX6_addStep_35 : decode cX6_addStep 35 = .ok (.iload_n 3, 1) := by decide +kernel
theorem dX6_addStep_36 : decode cX6_addStep 36 = .ok (.iconst (-1), 1) := by decide +kernel
theorem dX6_addStep_37 : decode cX6_addStep 37 = .ok (.if_icmp .eq 22, 3) := by decide +kernel
theorem dX6_addStep_40 : decode cX6_addStep 40 = .ok (.aload 4, 2) := by decide +kernel
theorem dX6_addStep_42 : decode cX6_addStep 42 = .ok (.iload_n 3, 1) := by decide +kernel
theorem dX6_addStep_43 : decode cX6_addStep 43 = .ok (.invokevirtual 61, 3) := by decide +kernel
theorem dX6_addStep_46 : decode cX6_addStep 46 = .ok (.ifCond .ne 13, 3) := by decide +kernel
theorem dX6_addStep_49 : decode cX6_addStep 49 = .ok (.new 56, 3) := by decide +kernel
theorem dX6_addStep_52 : decode cX6_addStep 52 = .ok (.dup, 1) := by decide +kernel
theorem dX6_addStep_53 : decode cX6_addStep 53 = .ok (.ldc 65, 2) := by decide +kernel
theorem dX6_addStep_55 : decode cX6_addStep 55 = .ok (.invokespecial 60, 3) := by decide +kernel
theorem dX6_addStep_58 : decode cX6_addStep 58 = .ok (.athrow, 1) := by decide +kernel
theorem dX6_addStep_59 : decode cX6_addStep 59 = .ok (.aload 4, 2) := by decide +kernel
theorem dX6_addStep_61 : decode cX6_addStep 61 = .ok (.invokestatic 67, 3) := by decide +kernel
theorem dX6_addStep_64 : decode cX6_addStep 64 = .ok (.aload 4, 2) := by decide +kernel
theorem dX6_addStep_66 : decode cX6_addStep 66 = .ok (.getfield 70, 3) := by decide +kernel
theorem dX6_addStep_69 : decode cX6_addStep 69 = .ok (.bipush 8, 2) := by decide +kernel
theorem dX6_addStep_71 : decode cX6_addStep 71 = .ok (.if_icmp .lt 13, 3) := by decide +kernel
theorem dX6_addStep_74 : decode cX6_addStep 74 = .ok (.new 45, 3) := by decide +kernel
theorem dX6_addStep_77 : decode cX6_addStep 77 = .ok (.dup, 1) := by decide +kernel
theorem dX6_addStep_78 : decode cX6_addStep 78 = .ok (.ldc 73, 2) := by decide +kernel
theorem dX6_addStep_80 : decode cX6_addStep 80 = .ok (.invokespecial 49, 3) := by decide +kernel
theorem dX6_addStep_83 : decode cX6_addStep 83 = .ok (.athrow, 1) := by decide +kernel
theorem dX6_addStep_84 : decode cX6_addStep 84 = .ok (.aload 4, 2) := by decide +kernel
theorem dX6_addStep_86 : decode cX6_addStep 86 = .ok (.new 75, 3) := by decide +kernel
theorem dX6_addStep_89 : decode cX6_addStep 89 = .ok (.dup, 1) := by decide +kernel
theorem dX6_addStep_90 : decode cX6_addStep 90 = .ok (.iload_n 2, 1) := by decide +kernel
theorem dX6_addStep_91 : decode cX6_addStep 91 = .ok (.iload_n 3, 1) := by decide +kernel
theorem dX6_addStep_92 : decode cX6_addStep 92 = .ok (.invokespecial 77, 3) := by decide +kernel
theorem dX6_addStep_95 : decode cX6_addStep 95 = .ok (.invokevirtual 80, 3) := by decide +kernel
theorem dX6_addStep_98 : decode cX6_addStep 98 = .ok (.ireturn, 1) := by decide +kernel
theorem dX6_addEntry_0 : decode cX6_addEntry 0 = .ok (.aload_n 0, 1) := by decide +kernel
theorem dX6_addEntry_1 : decode cX6_addEntry 1 = .ok (.iload_n 1, 1) := by decide +kernel
theorem dX6_addEntry_2 : decode cX6_addEntry 2 = .ok (.invokevirtual 52, 3) := by decide +kernel
theorem dX6_addEntry_5 : decode cX6_addEntry 5 = .ok (.astore 6, 2) := by decide +kernel
theorem dX6_addEntry_7 : decode cX6_addEntry 7 = .ok (.aload 6, 2) := by decide +kernel
theorem dX6_addEntry_9 : decode cX6_addEntry 9 = .ok (.iload_n 2, 1) := by decide +kernel
theorem dX6_addEntry_10 : decode cX6_addEntry 10 = .ok (.invokestatic 84, 3) := by decide +kernel
theorem dX6_addEntry_13 : decode cX6_addEntry 13 = .ok (.astore 7, 2) := by decide +kernel
theorem dX6_addEntry_15 : decode cX6_addEntry 15 = .ok (.aload 6, 2) := by decide +kernel
theorem dX6_addEntry_17 : decode cX6_addEntry 17 = .ok (.iload_n 3, 1) := by decide +kernel
theorem dX6_addEntry_18 : decode cX6_addEntry 18 = .ok (.iload 4, 2) := by decide +kernel
theorem dX6_addEntry_20 : decode cX6_addEntry 20 = .ok (.iload 5, 2) := by decide +kernel
theorem dX6_addEntry_22 : decode cX6_addEntry 22 = .ok (.invokestatic 88, 3) := by decide +kernel
theorem dX6_addEntry_25 : decode cX6_addEntry 25 = .ok (.aload 6, 2) := by decide +kernel
theorem dX6_addEntry_27 : decode cX6_addEntry 27 = .ok (.invokestatic 67, 3) := by decide +kernel
theorem dX6_addEntry_30 : decode cX6_addEntry 30 = .ok (.aload 7, 2) := by decide +kernel
theorem dX6_addEntry_32 : decode cX6_addEntry 32 = .ok (.getfield 92, 3) := by decide +kernel
theorem dX6_addEntry_35 : decode cX6_addEntry 35 = .ok (.invokestatic 96, 3) := by decide +kernel
theorem dX6_addEntry_38 : decode cX6_addEntry 38 = .ok (.aload 7, 2) := by decide +kernel
theorem dX6_addEntry_40 : decode cX6_addEntry 40 = .ok (.getfield 92, 3) := by decide +kernel
theorem dX6_addEntry_43 : decode cX6_addEntry 43 = .ok (.new 100, 3) := by decide +kernel
theorem dX6_addEntry_46 : decode cX6_addEntry 46 = .ok (.dup, 1) := by decide +kernel
theorem dX6_addEntry_47 : decode cX6_addEntry 47 = .ok (.iload_n 3, 1) := by decide +kernel
theorem dX6_addEntry_48 : decode cX6_addEntry 48 = .ok (.iload 4, 2) := by decide +kernel
theorem dX6_addEntry_50 : decode cX6_addEntry 50 = .ok (.iload 5, 2) := by decide +kernel
theorem dX6_addEntry_52 : decode cX6_addEntry 52 = .ok (.invokespecial 102, 3) := by decide +kernel
theorem dX6_addEntry_55 : decode cX6_addEntry 55 = .ok (.invokevirtual 105, 3) := by decide +kernel
theorem dX6_addEntry_58 : decode cX6_addEntry 58 = .ok (.ireturn, 1) := by decide +kernel
theorem dX6_addExit_0 : decode cX6_addExit 0 = .ok (.aload_n 0, 1) := by decide +kernel
theorem dX6_addExit_1 : decode cX6_addExit 1 = .ok (.iload_n 1, 1) := by decide +kernel
theorem dX6_addExit_2 : decode cX6_addExit 2 = .ok (.invokevirtual 52, 3) := by decide +kernel
theorem dX6_addExit_5 : decode cX6_addExit 5 = .ok (.astore 6, 2) := by decide +kernel
theorem dX6_addExit_7 : decode cX6_addExit 7 = .ok (.aload 6, 2) := by decide +kernel
theorem dX6_addExit_9 : decode cX6_addExit 9 = .ok (.iload_n 2, 1) := by decide +kernel
theorem dX6_addExit_10 : decode cX6_addExit 10 = .ok (.invokestatic 84, 3) := by decide +kernel
theorem dX6_addExit_13 : decode cX6_addExit 13 = .ok (.astore 7, 2) := by decide +kernel
theorem dX6_addExit_15 : decode cX6_addExit 15 = .ok (.aload 6, 2) := by decide +kernel
theorem dX6_addExit_17 : decode cX6_addExit 17 = .ok (.iload_n 3, 1) := by decide +kernel
theorem dX6_addExit_18 : decode cX6_addExit 18 = .ok (.iload 4, 2) := by decide +kernel
theorem dX6_addExit_20 : decode cX6_addExit 20 = .ok (.iload 5, 2) := by decide +kernel
theorem dX6_addExit_22 : decode cX6_addExit 22 = .ok (.invokestatic 88, 3) := by decide +kernel
theorem dX6_addExit_25 : decode cX6_addExit 25 = .ok (.aload 7, 2) := by decide +kernel
theorem dX6_addExit_27 : decode cX6_addExit 27 = .ok (.getfield 110, 3) := by decide +kernel
theorem dX6_addExit_30 : decode cX6_addExit 30 = .ok (.bipush 109, 2) := by decide +kernel
theorem dX6_addExit_32 : decode cX6_addExit 32 = .ok (.if_icmp .ne 13, 3) := by decide +kernel
theorem dX6_addExit_35 : decode cX6_addExit 35 = .ok (.new 114, 3) := by decide +kernel
theorem dX6_addExit_38 : decode cX6_addExit 38 = .ok (.dup, 1) := by decide +kernel
theorem dX6_addExit_39 : decode cX6_addExit 39 = .ok (.ldc 116, 2) := by decide +kernel
theorem dX6_addExit_41 : decode cX6_addExit 41 = .ok (.invokespecial 118, 3) := by decide +kernel
theorem dX6_addExit_44 : decode cX6_addExit 44 = .ok (.athrow, 1) := by decide +kernel
theorem dX6_addExit_45 : decode cX6_addExit 45 = .ok (.aload 6, 2) := by decide +kernel
theorem dX6_addExit_47 : decode cX6_addExit 47 = .ok (.invokestatic 67, 3) := by decide +kernel
theorem dX6_addExit_50 : decode cX6_addExit 50 = .ok (.aload 7, 2) := by decide +kernel
theorem dX6_addExit_52 : decode cX6_addExit 52 = .ok (.getfield 119, 3) := by decide +kernel
theorem dX6_addExit_55 : decode cX6_addExit 55 = .ok (.invokestatic 96, 3) := by decide +kernel
theorem dX6_addExit_58 : decode cX6_addExit 58 = .ok (.aload 7, 2) := by decide +kernel
theorem dX6_addExit_60 : decode cX6_addExit 60 = .ok (.getfield 119, 3) := by decide +kernel
theorem dX6_addExit_63 : decode cX6_addExit 63 = .ok (.new 100, 3) := by decide +kernel
theorem dX6_addExit_66 : decode cX6_addExit 66 = .ok (.dup, 1) := by decide +kernel
theorem dX6_addExit_67 : decode cX6_addExit 67 = .ok (.iload_n 3, 1) := by decide +kernel
theorem dX6_addExit_68 : decode cX6_addExit 68 = .ok (.iload 4, 2) := by decide +kernel
theorem dX6_addExit_70 : decode cX6_addExit 70 = .ok (.iload 5, 2) := by decide +kernel
theorem dX6_addExit_72 : decode cX6_addExit 72 = .ok (.invokespecial 102, 3) := by decide +kernel
theorem dX6_addExit_75 : decode cX6_addExit 75 = .ok (.invokevirtual 105, 3) := by decide +kernel
theorem dX6_addExit_78 : decode cX6_addExit 78 = .ok (.ireturn, 1) := by decide +kernel
theorem dX6_setRequired_0 : decode cX6_setRequired 0 = .ok (.aload_n 0, 1) := by decide +kernel
theorem dX6_setRequired_1 : decode cX6_setRequired 1 = .ok (.iload_n 1, 1) := by decide +kernel
theorem dX6_setRequired_2 : decode cX6_setRequired 2 = .ok (.invokevirtual 52, 3) := by decide +kernel
theorem dX6_setRequired_5 : decode cX6_setRequired 5 = .ok (.astore 4, 2) := by decide +kernel
theorem dX6_setRequired_7 : decode cX6_setRequired 7 = .ok (.aload 4, 2) := by decide +kernel
theorem dX6_setRequired_9 : decode cX6_setRequired 9 = .ok (.iload_n 2, 1) := by decide +kernel
theorem dX6_setRequired_10 : decode cX6_setRequired 10 = .ok (.invokestatic 84, 3) := by decide +kernel
theorem dX6_setRequired_13 : decode cX6_setRequired 13 = .ok (.astore 5, 2) := by decide +kernel
theorem dX6_setRequired_15 : decode cX6_setRequired 15 = .ok (.aload 5, 2) := by decide +kernel
theorem dX6_setRequired_17 : decode cX6_setRequired 17 = .ok (.invokestatic 122, 3) := by decide +kernel
theorem dX6_setRequired_20 : decode cX6_setRequired 20 = .ok (.aload 4, 2) := by decide +kernel
theorem dX6_setRequired_22 : decode cX6_setRequired 22 = .ok (.invokestatic 67, 3) := by decide +kernel
theorem dX6_setRequired_25 : decode cX6_setRequired 25 = .ok (.aload 5, 2) := by decide +kernel
theorem dX6_setRequired_27 : decode cX6_setRequired 27 = .ok (.getfield 126, 3) := by decide +kernel
theorem dX6_setRequired_30 : decode cX6_setRequired 30 = .ok (.istore 6, 2) := by decide +kernel
theorem dX6_setRequired_32 : decode cX6_setRequired 32 = .ok (.aload 5, 2) := by decide +kernel
theorem dX6_setRequired_34 : decode cX6_setRequired 34 = .ok (.iload_n 3, 1) := by decide +kernel
theorem dX6_setRequired_35 : decode cX6_setRequired 35 = .ok (.putfield 126, 3) := by decide +kernel
theorem dX6_setRequired_38 : decode cX6_setRequired 38 = .ok (.iload 6, 2) := by decide +kernel
theorem dX6_setRequired_40 : decode cX6_setRequired 40 = .ok (.ireturn, 1) := by decide +kernel
theorem dX6_setLimit_0 : decode cX6_setLimit 0 = .ok (.aload_n 0, 1) := by decide +kernel
theorem dX6_setLimit_1 : decode cX6_setLimit 1 = .ok (.iload_n 1, 1) := by decide +kernel
theorem dX6_setLimit_2 : decode cX6_setLimit 2 = .ok (.invokevirtual 52, 3) := by decide +kernel
theorem dX6_setLimit_5 : decode cX6_setLimit 5 = .ok (.astore 4, 2) := by decide +kernel
theorem dX6_setLimit_7 : decode cX6_setLimit 7 = .ok (.aload 4, 2) := by decide +kernel
theorem dX6_setLimit_9 : decode cX6_setLimit 9 = .ok (.iload_n 2, 1) := by decide +kernel
theorem dX6_setLimit_10 : decode cX6_setLimit 10 = .ok (.invokestatic 84, 3) := by decide +kernel
theorem dX6_setLimit_13 : decode cX6_setLimit 13 = .ok (.astore 5, 2) := by decide +kernel
theorem dX6_setLimit_15 : decode cX6_setLimit 15 = .ok (.iload_n 3, 1) := by decide +kernel
theorem dX6_setLimit_16 : decode cX6_setLimit 16 = .ok (.iconst 1, 1) := by decide +kernel
theorem dX6_setLimit_17 : decode cX6_setLimit 17 = .ok (.if_icmp .lt 9, 3) := by decide +kernel
theorem dX6_setLimit_20 : decode cX6_setLimit 20 = .ok (.iload_n 3, 1) := by decide +kernel
theorem dX6_setLimit_21 : decode cX6_setLimit 21 = .ok (.bipush 99, 2) := by decide +kernel
theorem dX6_setLimit_23 : decode cX6_setLimit 23 = .ok (.if_icmp .le 13, 3) := by decide +kernel
theorem dX6_setLimit_26 : decode cX6_setLimit 26 = .ok (.new 56, 3) := by decide +kernel
theorem dX6_setLimit_29 : decode cX6_setLimit 29 = .ok (.dup, 1) := by decide +kernel
theorem dX6_setLimit_30 : decode cX6_setLimit 30 = .ok (.ldc 130, 2) := by decide +kernel
theorem dX6_setLimit_32 : decode cX6_setLimit 32 = .ok (.invokespecial 60, 3) := by decide +kernel
theorem dX6_setLimit_35 : decode cX6_setLimit 35 = .ok (.athrow, 1) := by decide +kernel
theorem dX6_setLimit_36 : decode cX6_setLimit 36 = .ok (.aload 5, 2) := by decide +kernel
theorem dX6_setLimit_38 : decode cX6_setLimit 38 = .ok (.invokestatic 122, 3) := by decide +kernel
theorem dX6_setLimit_41 : decode cX6_setLimit 41 = .ok (.aload 4, 2) := by decide +kernel
theorem dX6_setLimit_43 : decode cX6_setLimit 43 = .ok (.invokestatic 67, 3) := by decide +kernel
theorem dX6_setLimit_46 : decode cX6_setLimit 46 = .ok (.aload 5, 2) := by decide +kernel
theorem dX6_setLimit_48 : decode cX6_setLimit 48 = .ok (.getfield 132, 3) := by decide +kernel
theorem dX6_setLimit_51 : decode cX6_setLimit 51 = .ok (.istore 6, 2) := by decide +kernel
theorem dX6_setLimit_53 : decode cX6_setLimit 53 = .ok (.aload 5, 2) := by decide +kernel
theorem dX6_setLimit_55 : decode cX6_setLimit 55 = .ok (.iload_n 3, 1) := by decide +kernel
theorem dX6_setLimit_56 : decode cX6_setLimit 56 = .ok (.putfield 132, 3) := by decide +kernel
theorem dX6_setLimit_59 : decode cX6_setLimit 59 = .ok (.iload 6, 2) := by decide +kernel
theorem dX6_setLimit_61 : decode cX6_setLimit 61 = .ok (.ireturn, 1) := by decide +kernel
theorem dX6_setAgain_0 : decode cX6_setAgain 0 = .ok (.aload_n 0, 1) := by decide +kernel
theorem dX6_setAgain_1 : decode cX6_setAgain 1 = .ok (.iload_n 1, 1) := by decide +kernel
theorem dX6_setAgain_2 : decode cX6_setAgain 2 = .ok (.invokevirtual 52, 3) := by decide +kernel
theorem dX6_setAgain_5 : decode cX6_setAgain 5 = .ok (.astore 4, 2) := by decide +kernel
theorem dX6_setAgain_7 : decode cX6_setAgain 7 = .ok (.aload 4, 2) := by decide +kernel
theorem dX6_setAgain_9 : decode cX6_setAgain 9 = .ok (.iload_n 2, 1) := by decide +kernel
theorem dX6_setAgain_10 : decode cX6_setAgain 10 = .ok (.invokestatic 84, 3) := by decide +kernel
theorem dX6_setAgain_13 : decode cX6_setAgain 13 = .ok (.astore 5, 2) := by decide +kernel
theorem dX6_setAgain_15 : decode cX6_setAgain 15 = .ok (.aload 5, 2) := by decide +kernel
theorem dX6_setAgain_17 : decode cX6_setAgain 17 = .ok (.getfield 110, 3) := by decide +kernel
theorem dX6_setAgain_20 : decode cX6_setAgain 20 = .ok (.bipush 109, 2) := by decide +kernel
theorem dX6_setAgain_22 : decode cX6_setAgain 22 = .ok (.if_icmp .eq 13, 3) := by decide +kernel
theorem dX6_setAgain_25 : decode cX6_setAgain 25 = .ok (.new 114, 3) := by decide +kernel
theorem dX6_setAgain_28 : decode cX6_setAgain 28 = .ok (.dup, 1) := by decide +kernel
theorem dX6_setAgain_29 : decode cX6_setAgain 29 = .ok (.ldc 135, 2) := by decide +kernel
theorem dX6_setAgain_31 : decode cX6_setAgain 31 = .ok (.invokespecial 118, 3) := by decide +kernel
theorem dX6_setAgain_34 : decode cX6_setAgain 34 = .ok (.athrow, 1) := by decide +kernel
theorem dX6_setAgain_35 : decode cX6_setAgain 35 = .ok (.aload 4, 2) := by decide +kernel
theorem dX6_setAgain_37 : decode cX6_setAgain 37 = .ok (.invokestatic 67, 3) := by decide +kernel
theorem dX6_setAgain_40 : decode cX6_setAgain 40 = .ok (.aload 5, 2) := by decide +kernel
theorem dX6_setAgain_42 : decode cX6_setAgain 42 = .ok (.getfield 137, 3) := by decide +kernel
theorem dX6_setAgain_45 : decode cX6_setAgain 45 = .ok (.istore 6, 2) := by decide +kernel
theorem dX6_setAgain_47 : decode cX6_setAgain 47 = .ok (.aload 5, 2) := by decide +kernel
theorem dX6_setAgain_49 : decode cX6_setAgain 49 = .ok (.iload_n 3, 1) := by decide +kernel
theorem dX6_setAgain_50 : decode cX6_setAgain 50 = .ok (.putfield 137, 3) := by decide +kernel
theorem dX6_setAgain_53 : decode cX6_setAgain 53 = .ok (.iload 6, 2) := by decide +kernel
theorem dX6_setAgain_55 : decode cX6_setAgain 55 = .ok (.ireturn, 1) := by decide +kernel
theorem dX6_steps_0 : decode cX6_steps 0 = .ok (.aload_n 0, 1) := by decide +kernel
theorem dX6_steps_1 : decode cX6_steps 1 = .ok (.iload_n 1, 1) := by decide +kernel
theorem dX6_steps_2 : decode cX6_steps 2 = .ok (.invokevirtual 52, 3) := by decide +kernel
theorem dX6_steps_5 : decode cX6_steps 5 = .ok (.getfield 70, 3) := by decide +kernel
theorem dX6_steps_8 : decode cX6_steps 8 = .ok (.ireturn, 1) := by decide +kernel
theorem dX6_isUsed_0 : decode cX6_isUsed 0 = .ok (.aload_n 0, 1) := by decide +kernel
theorem dX6_isUsed_1 : decode cX6_isUsed 1 = .ok (.iload_n 1, 1) := by decide +kernel
theorem dX6_isUsed_2 : decode cX6_isUsed 2 = .ok (.invokevirtual 52, 3) := by decide +kernel
theorem dX6_isUsed_5 : decode cX6_isUsed 5 = .ok (.getfield 140, 3) := by decide +kernel
theorem dX6_isUsed_8 : decode cX6_isUsed 8 = .ok (.ireturn, 1) := by decide +kernel
theorem dX6_begin_0 : decode cX6_begin 0 = .ok (.aload_n 0, 1) := by decide +kernel
theorem dX6_begin_1 : decode cX6_begin 1 = .ok (.iload_n 1, 1) := by decide +kernel
theorem dX6_begin_2 : decode cX6_begin 2 = .ok (.invokevirtual 52, 3) := by decide +kernel
theorem dX6_begin_5 : decode cX6_begin 5 = .ok (.astore_n 2, 1) := by decide +kernel
theorem dX6_begin_6 : decode cX6_begin 6 = .ok (.aload_n 2, 1) := by decide +kernel
theorem dX6_begin_7 : decode cX6_begin 7 = .ok (.getfield 70, 3) := by decide +kernel
theorem dX6_begin_10 : decode cX6_begin 10 = .ok (.ifCond .ne 13, 3) := by decide +kernel
theorem dX6_begin_13 : decode cX6_begin 13 = .ok (.new 45, 3) := by decide +kernel
theorem dX6_begin_16 : decode cX6_begin 16 = .ok (.dup, 1) := by decide +kernel
theorem dX6_begin_17 : decode cX6_begin 17 = .ok (.ldc 143, 2) := by decide +kernel
theorem dX6_begin_19 : decode cX6_begin 19 = .ok (.invokespecial 49, 3) := by decide +kernel
theorem dX6_begin_22 : decode cX6_begin 22 = .ok (.athrow, 1) := by decide +kernel
theorem dX6_begin_23 : decode cX6_begin 23 = .ok (.aload_n 0, 1) := by decide +kernel
theorem dX6_begin_24 : decode cX6_begin 24 = .ok (.getfield 25, 3) := by decide +kernel
theorem dX6_begin_27 : decode cX6_begin 27 = .ok (.ifCond .lt 11, 3) := by decide +kernel
theorem dX6_begin_30 : decode cX6_begin 30 = .ok (.aload_n 0, 1) := by decide +kernel
theorem dX6_begin_31 : decode cX6_begin 31 = .ok (.getfield 25, 3) := by decide +kernel
theorem dX6_begin_34 : decode cX6_begin 34 = .ok (.iconst 4, 1) := by decide +kernel
theorem dX6_begin_35 : decode cX6_begin 35 = .ok (.if_icmp .lt 13, 3) := by decide +kernel
theorem dX6_begin_38 : decode cX6_begin 38 = .ok (.new 45, 3) := by decide +kernel
theorem dX6_begin_41 : decode cX6_begin 41 = .ok (.dup, 1) := by decide +kernel
theorem dX6_begin_42 : decode cX6_begin 42 = .ok (.ldc 145, 2) := by decide +kernel
theorem dX6_begin_44 : decode cX6_begin 44 = .ok (.invokespecial 49, 3) := by decide +kernel
theorem dX6_begin_47 : decode cX6_begin 47 = .ok (.athrow, 1) := by decide +kernel
theorem dX6_begin_48 : decode cX6_begin 48 = .ok (.aload_n 0, 1) := by decide +kernel
theorem dX6_begin_49 : decode cX6_begin 49 = .ok (.getfield 25, 3) := by decide +kernel
theorem dX6_begin_52 : decode cX6_begin 52 = .ok (.istore_n 3, 1) := by decide +kernel
theorem dX6_begin_53 : decode cX6_begin 53 = .ok (.new 19, 3) := by decide +kernel
theorem dX6_begin_56 : decode cX6_begin 56 = .ok (.dup, 1) := by decide +kernel
theorem dX6_begin_57 : decode cX6_begin 57 = .ok (.aload_n 2, 1) := by decide +kernel
theorem dX6_begin_58 : decode cX6_begin 58 = .ok (.invokespecial 38, 3) := by decide +kernel
theorem dX6_begin_61 : decode cX6_begin 61 = .ok (.astore 4, 2) := by decide +kernel
theorem dX6_begin_63 : decode cX6_begin 63 = .ok (.aload_n 0, 1) := by decide +kernel
theorem dX6_begin_64 : decode cX6_begin 64 = .ok (.getfield 21, 3) := by decide +kernel
theorem dX6_begin_67 : decode cX6_begin 67 = .ok (.iload_n 3, 1) := by decide +kernel
theorem dX6_begin_68 : decode cX6_begin 68 = .ok (.aload 4, 2) := by decide +kernel
theorem dX6_begin_70 : decode cX6_begin 70 = .ok (.aastore, 1) := by decide +kernel
theorem dX6_begin_71 : decode cX6_begin 71 = .ok (.aload_n 0, 1) := by decide +kernel
theorem dX6_begin_72 : decode cX6_begin 72 = .ok (.iload_n 3, 1) := by decide +kernel
theorem dX6_begin_73 : decode cX6_begin 73 = .ok (.iconst 1, 1) := by decide +kernel
theorem dX6_begin_74 : decode cX6_begin 74 = .ok (.iadd, 1) := by decide +kernel
theorem dX6_begin_75 : decode cX6_begin 75 = .ok (.putfield 25, 3) := by decide +kernel
theorem dX6_begin_78 : decode cX6_begin 78 = .ok (.aload_n 2, 1) := by decide +kernel
theorem dX6_begin_79 : decode cX6_begin 79 = .ok (.iconst 1, 1) := by decide +kernel
theorem dX6_begin_80 : decode cX6_begin 80 = .ok (.putfield 140, 3) := by decide +kernel
theorem dX6_begin_83 : decode cX6_begin 83 = .ok (.aload_n 0, 1) := by decide +kernel
theorem dX6_begin_84 : decode cX6_begin 84 = .ok (.iload_n 3, 1) := by decide +kernel
theorem dX6_begin_85 : decode cX6_begin 85 = .ok (.aload 4, 2) := by decide +kernel
theorem dX6_begin_87 : decode cX6_begin 87 = .ok (.iconst 0, 1) := by decide +kernel
theorem dX6_begin_88 : decode cX6_begin 88 = .ok (.iload_n 1, 1) := by decide +kernel
theorem dX6_begin_89 : decode cX6_begin 89 = .ok (.iconst 0, 1) := by decide +kernel
theorem dX6_begin_90 : decode cX6_begin 90 = .ok (.invokevirtual 147, 3) := by decide +kernel
theorem dX6_begin_93 : decode cX6_begin 93 = .ok (.iload_n 3, 1) := by decide +kernel
theorem dX6_begin_94 : decode cX6_begin 94 = .ok (.ireturn, 1) := by decide +kernel
theorem dX6_set_0 : decode cX6_set 0 = .ok (.aload_n 0, 1) := by decide +kernel
theorem dX6_set_1 : decode cX6_set 1 = .ok (.iload_n 1, 1) := by decide +kernel
theorem dX6_set_2 : decode cX6_set 2 = .ok (.invokevirtual 151, 3) := by decide +kernel
theorem dX6_set_5 : decode cX6_set 5 = .ok (.astore 4, 2) := by decide +kernel
theorem dX6_set_7 : decode cX6_set 7 = .ok (.iload_n 2, 1) := by decide +kernel
theorem dX6_set_8 : decode cX6_set 8 = .ok (.invokestatic 155, 3) := by decide +kernel
theorem dX6_set_11 : decode cX6_set 11 = .ok (.ifCond .ne 13, 3) := by decide +kernel
theorem dX6_set_14 : decode cX6_set 14 = .ok (.new 56, 3) := by decide +kernel
theorem dX6_set_17 : decode cX6_set 17 = .ok (.dup, 1) := by decide +kernel
theorem dX6_set_18 : decode cX6_set 18 = .ok (.ldc 158, 2) := by decide +kernel
theorem dX6_set_20 : decode cX6_set 20 = .ok (.invokespecial 60, 3) := by decide +kernel
theorem dX6_set_23 : decode cX6_set 23 = .ok (.athrow, 1) := by decide +kernel
theorem dX6_set_24 : decode cX6_set 24 = .ok (.iload_n 3, 1) := by decide +kernel
theorem dX6_set_25 : decode cX6_set 25 = .ok (.invokestatic 160, 3) := by decide +kernel
theorem dX6_set_28 : decode cX6_set 28 = .ok (.ifCond .ne 13, 3) := by decide +kernel
theorem dX6_set_31 : decode cX6_set 31 = .ok (.new 56, 3) := by decide +kernel
theorem dX6_set_34 : decode cX6_set 34 = .ok (.dup, 1) := by decide +kernel
theorem dX6_set_35 : decode cX6_set 35 = .ok (.ldc 163, 2) := by decide +kernel
theorem dX6_set_37 : decode cX6_set 37 = .ok (.invokespecial 60, 3) := by decide +kernel
theorem dX6_set_40 : decode cX6_set 40 = .ok (.athrow, 1) := by decide +kernel
theorem dX6_set_41 : decode cX6_set 41 = .ok (.aload 4, 2) := by decide +kernel
theorem dX6_set_43 : decode cX6_set 43 = .ok (.iload_n 2, 1) := by decide +kernel
theorem dX6_set_44 : decode cX6_set 44 = .ok (.invokevirtual 165, 3) := by decide +kernel
theorem dX6_set_47 : decode cX6_set 47 = .ok (.istore 5, 2) := by decide +kernel
theorem dX6_set_49 : decode cX6_set 49 = .ok (.aload_n 0, 1) := by decide +kernel
theorem dX6_set_50 : decode cX6_set 50 = .ok (.iload_n 1, 1) := by decide +kernel
theorem dX6_set_51 : decode cX6_set 51 = .ok (.aload 4, 2) := by decide +kernel
theorem dX6_set_53 : decode cX6_set 53 = .ok (.iconst 1, 1) := by decide +kernel
theorem dX6_set_54 : decode cX6_set 54 = .ok (.iload_n 2, 1) := by decide +kernel
theorem dX6_set_55 : decode cX6_set 55 = .ok (.iload_n 3, 1) := by decide +kernel
theorem dX6_set_56 : decode cX6_set 56 = .ok (.invokevirtual 147, 3) := by decide +kernel
theorem dX6_set_59 : decode cX6_set 59 = .ok (.iload 5, 2) := by decide +kernel
theorem dX6_set_61 : decode cX6_set 61 = .ok (.ireturn, 1) := by decide +kernel
theorem dX6_event_0 : decode cX6_event 0 = .ok (.aload_n 0, 1) := by decide +kernel
theorem dX6_event_1 : decode cX6_event 1 = .ok (.iload_n 1, 1) := by decide +kernel
theorem dX6_event_2 : decode cX6_event 2 = .ok (.invokevirtual 151, 3) := by decide +kernel
theorem dX6_event_5 : decode cX6_event 5 = .ok (.astore_n 3, 1) := by decide +kernel
theorem dX6_event_6 : decode cX6_event 6 = .ok (.iload_n 2, 1) := by decide +kernel
theorem dX6_event_7 : decode cX6_event 7 = .ok (.invokestatic 169, 3) := by decide +kernel
theorem dX6_event_10 : decode cX6_event 10 = .ok (.ifCond .ne 13, 3) := by decide +kernel
theorem dX6_event_13 : decode cX6_event 13 = .ok (.new 56, 3) := by decide +kernel
theorem dX6_event_16 : decode cX6_event 16 = .ok (.dup, 1) := by decide +kernel
theorem dX6_event_17 : decode cX6_event 17 = .ok (.ldc 172, 2) := by decide +kernel
theorem dX6_event_19 : decode cX6_event 19 = .ok (.invokespecial 60, 3) := by decide +kernel
theorem dX6_event_22 : decode cX6_event 22 = .ok (.athrow, 1) := by decide +kernel
theorem dX6_event_23 : decode cX6_event 23 = .ok (.aload_n 3, 1) := by decide +kernel
theorem dX6_event_24 : decode cX6_event 24 = .ok (.invokevirtual 174, 3) := by decide +kernel
theorem dX6_event_27 : decode cX6_event 27 = .ok (.aload_n 0, 1) := by decide +kernel
theorem dX6_event_28 : decode cX6_event 28 = .ok (.iload_n 1, 1) := by decide +kernel
theorem dX6_event_29 : decode cX6_event 29 = .ok (.aload_n 3, 1) := by decide +kernel
theorem dX6_event_30 : decode cX6_event 30 = .ok (.iconst 2, 1) := by decide +kernel
theorem dX6_event_31 : decode cX6_event 31 = .ok (.iload_n 2, 1) := by decide +kernel
theorem dX6_event_32 : decode cX6_event 32 = .ok (.iconst 0, 1) := by decide +kernel
theorem dX6_event_33 : decode cX6_event 33 = .ok (.invokevirtual 147, 3) := by decide +kernel
theorem dX6_event_36 : decode cX6_event 36 = .ok (.aload_n 3, 1) := by decide +kernel
theorem dX6_event_37 : decode cX6_event 37 = .ok (.iconst (-1), 1) := by decide +kernel
theorem dX6_event_38 : decode cX6_event 38 = .ok (.invokevirtual 177, 3) := by decide +kernel
theorem dX6_event_41 : decode cX6_event 41 = .ok (.ireturn, 1) := by decide +kernel
theorem dX6_complete_0 : decode cX6_complete 0 = .ok (.aload_n 0, 1) := by decide +kernel
theorem dX6_complete_1 : decode cX6_complete 1 = .ok (.iload_n 1, 1) := by decide +kernel
theorem dX6_complete_2 : decode cX6_complete 2 = .ok (.invokevirtual 151, 3) := by decide +kernel
theorem dX6_complete_5 : decode cX6_complete 5 = .ok (.astore_n 3, 1) := by decide +kernel
theorem dX6_complete_6 : decode cX6_complete 6 = .ok (.aload_n 3, 1) := by decide +kernel
theorem dX6_complete_7 : decode cX6_complete 7 = .ok (.getfield 180, 3) := by decide +kernel
theorem dX6_complete_10 : decode cX6_complete 10 = .ok (.iload_n 2, 1) := by decide +kernel
theorem dX6_complete_11 : decode cX6_complete 11 = .ok (.invokestatic 84, 3) := by decide +kernel
theorem dX6_complete_14 : decode cX6_complete 14 = .ok (.invokestatic 122, 3) := by decide +kernel
theorem dX6_complete_17 : decode cX6_complete 17 = .ok (.aload_n 3, 1) := by decide +kernel
theorem dX6_complete_18 : decode cX6_complete 18 = .ok (.iload_n 2, 1) := by decide +kernel
theorem dX6_complete_19 : decode cX6_complete 19 = .ok (.invokevirtual 184, 3) := by decide +kernel
theorem dX6_complete_22 : decode cX6_complete 22 = .ok (.bipush 97, 2) := by decide +kernel
theorem dX6_complete_24 : decode cX6_complete 24 = .ok (.if_icmp .eq 13, 3) := by decide +kernel
theorem dX6_complete_27 : decode cX6_complete 27 = .ok (.new 45, 3) := by decide +kernel
theorem dX6_complete_30 : decode cX6_complete 30 = .ok (.dup, 1) := by decide +kernel
theorem dX6_complete_31 : decode cX6_complete 31 = .ok (.ldc 188, 2) := by decide +kernel
theorem dX6_complete_33 : decode cX6_complete 33 = .ok (.invokespecial 49, 3) := by decide +kernel
theorem dX6_complete_36 : decode cX6_complete 36 = .ok (.athrow, 1) := by decide +kernel
theorem dX6_complete_37 : decode cX6_complete 37 = .ok (.aload_n 3, 1) := by decide +kernel
theorem dX6_complete_38 : decode cX6_complete 38 = .ok (.invokevirtual 174, 3) := by decide +kernel
theorem dX6_complete_41 : decode cX6_complete 41 = .ok (.aload_n 0, 1) := by decide +kernel
theorem dX6_complete_42 : decode cX6_complete 42 = .ok (.iload_n 1, 1) := by decide +kernel
theorem dX6_complete_43 : decode cX6_complete 43 = .ok (.aload_n 3, 1) := by decide +kernel
theorem dX6_complete_44 : decode cX6_complete 44 = .ok (.iconst 3, 1) := by decide +kernel
theorem dX6_complete_45 : decode cX6_complete 45 = .ok (.iload_n 2, 1) := by decide +kernel
theorem dX6_complete_46 : decode cX6_complete 46 = .ok (.iconst 0, 1) := by decide +kernel
theorem dX6_complete_47 : decode cX6_complete 47 = .ok (.invokevirtual 147, 3) := by decide +kernel
theorem dX6_complete_50 : decode cX6_complete 50 = .ok (.aload_n 3, 1) := by decide +kernel
theorem dX6_complete_51 : decode cX6_complete 51 = .ok (.iload_n 2, 1) := by decide +kernel
theorem dX6_complete_52 : decode cX6_complete 52 = .ok (.invokevirtual 177, 3) := by decide +kernel
theorem dX6_complete_55 : decode cX6_complete 55 = .ok (.ireturn, 1) := by decide +kernel
theorem dX6_setWaiting_0 : decode cX6_setWaiting 0 = .ok (.aload_n 0, 1) := by decide +kernel
theorem dX6_setWaiting_1 : decode cX6_setWaiting 1 = .ok (.iload_n 1, 1) := by decide +kernel
theorem dX6_setWaiting_2 : decode cX6_setWaiting 2 = .ok (.invokevirtual 151, 3) := by decide +kernel
theorem dX6_setWaiting_5 : decode cX6_setWaiting 5 = .ok (.astore_n 3, 1) := by decide +kernel
theorem dX6_setWaiting_6 : decode cX6_setWaiting 6 = .ok (.aload_n 3, 1) := by decide +kernel
theorem dX6_setWaiting_7 : decode cX6_setWaiting 7 = .ok (.getfield 190, 3) := by decide +kernel
theorem dX6_setWaiting_10 : decode cX6_setWaiting 10 = .ok (.istore 4, 2) := by decide +kernel
theorem dX6_setWaiting_12 : decode cX6_setWaiting 12 = .ok (.aload_n 0, 1) := by decide +kernel
theorem dX6_setWaiting_13 : decode cX6_setWaiting 13 = .ok (.iload_n 1, 1) := by decide +kernel
theorem dX6_setWaiting_14 : decode cX6_setWaiting 14 = .ok (.aload_n 3, 1) := by decide +kernel
theorem dX6_setWaiting_15 : decode cX6_setWaiting 15 = .ok (.iload_n 2, 1) := by decide +kernel
theorem dX6_setWaiting_16 : decode cX6_setWaiting 16 = .ok (.ifCond .eq 7, 3) := by decide +kernel
theorem dX6_setWaiting_19 : decode cX6_setWaiting 19 = .ok (.iconst 4, 1) := by decide +kernel
theorem dX6_setWaiting_20 : decode cX6_setWaiting 20 = .ok (.goto 4, 3) := by decide +kernel
theorem dX6_setWaiting_23 : decode cX6_setWaiting 23 = .ok (.iconst 5, 1) := by decide +kernel
theorem dX6_setWaiting_24 : decode cX6_setWaiting 24 = .ok (.iconst 0, 1) := by decide +kernel
theorem dX6_setWaiting_25 : decode cX6_setWaiting 25 = .ok (.iconst 0, 1) := by decide +kernel
theorem dX6_setWaiting_26 : decode cX6_setWaiting 26 = .ok (.invokevirtual 147, 3) := by decide +kernel
theorem dX6_setWaiting_29 : decode cX6_setWaiting 29 = .ok (.iload 4, 2) := by decide +kernel
theorem dX6_setWaiting_31 : decode cX6_setWaiting 31 = .ok (.ireturn, 1) := by decide +kernel
theorem dX6_move_0 : decode cX6_move 0 = .ok (.aload_n 0, 1) := by decide +kernel
theorem dX6_move_1 : decode cX6_move 1 = .ok (.iload_n 1, 1) := by decide +kernel
theorem dX6_move_2 : decode cX6_move 2 = .ok (.invokevirtual 151, 3) := by decide +kernel
theorem dX6_move_5 : decode cX6_move 5 = .ok (.astore_n 3, 1) := by decide +kernel
theorem dX6_move_6 : decode cX6_move 6 = .ok (.aload_n 0, 1) := by decide +kernel
theorem dX6_move_7 : decode cX6_move 7 = .ok (.iload_n 2, 1) := by decide +kernel
theorem dX6_move_8 : decode cX6_move 8 = .ok (.invokevirtual 52, 3) := by decide +kernel
theorem dX6_move_11 : decode cX6_move 11 = .ok (.astore 4, 2) := by decide +kernel
theorem dX6_move_13 : decode cX6_move 13 = .ok (.aload 4, 2) := by decide +kernel
theorem dX6_move_15 : decode cX6_move 15 = .ok (.getfield 70, 3) := by decide +kernel
theorem dX6_move_18 : decode cX6_move 18 = .ok (.aload_n 3, 1) := by decide +kernel
theorem dX6_move_19 : decode cX6_move 19 = .ok (.getfield 180, 3) := by decide +kernel
theorem dX6_move_22 : decode cX6_move 22 = .ok (.getfield 70, 3) := by decide +kernel
theorem dX6_move_25 : decode cX6_move 25 = .ok (.if_icmp .ge 13, 3) := by decide +kernel
theorem dX6_move_28 : decode cX6_move 28 = .ok (.new 56, 3) := by decide +kernel
theorem dX6_move_31 : decode cX6_move 31 = .ok (.dup, 1) := by decide +kernel
theorem dX6_move_32 : decode cX6_move 32 = .ok (.ldc 193, 2) := by decide +kernel
theorem dX6_move_34 : decode cX6_move 34 = .ok (.invokespecial 60, 3) := by decide +kernel
theorem dX6_move_37 : decode cX6_move 37 = .ok (.athrow, 1) := by decide +kernel
theorem dX6_move_38 : decode cX6_move 38 = .ok (.aload_n 3, 1) := by decide +kernel
theorem dX6_move_39 : decode cX6_move 39 = .ok (.getfield 180, 3) := by decide +kernel
theorem dX6_move_42 : decode cX6_move 42 = .ok (.getfield 195, 3) := by decide +kernel
theorem dX6_move_45 : decode cX6_move 45 = .ok (.istore 5, 2) := by decide +kernel
theorem dX6_move_47 : decode cX6_move 47 = .ok (.aload 4, 2) := by decide +kernel
theorem dX6_move_49 : decode cX6_move 49 = .ok (.iconst 1, 1) := by decide +kernel
theorem dX6_move_50 : decode cX6_move 50 = .ok (.putfield 140, 3) := by decide +kernel
theorem dX6_move_53 : decode cX6_move 53 = .ok (.aload_n 0, 1) := by decide +kernel
theorem dX6_move_54 : decode cX6_move 54 = .ok (.iload_n 1, 1) := by decide +kernel
theorem dX6_move_55 : decode cX6_move 55 = .ok (.aload_n 3, 1) := by decide +kernel
theorem dX6_move_56 : decode cX6_move 56 = .ok (.bipush 6, 2) := by decide +kernel
theorem dX6_move_58 : decode cX6_move 58 = .ok (.iload_n 2, 1) := by decide +kernel
theorem dX6_move_59 : decode cX6_move 59 = .ok (.iconst 0, 1) := by decide +kernel
theorem dX6_move_60 : decode cX6_move 60 = .ok (.invokevirtual 147, 3) := by decide +kernel
theorem dX6_move_63 : decode cX6_move 63 = .ok (.iload 5, 2) := by decide +kernel
theorem dX6_move_65 : decode cX6_move 65 = .ok (.ireturn, 1) := by decide +kernel
theorem dX6_pass_0 : decode cX6_pass 0 = .ok (.iload_n 1, 1) := by decide +kernel
theorem dX6_pass_1 : decode cX6_pass 1 = .ok (.iconst 1, 1) := by decide +kernel
theorem dX6_pass_2 : decode cX6_pass 2 = .ok (.if_icmp .lt 9, 3) := by decide +kernel
theorem dX6_pass_5 : decode cX6_pass 5 = .ok (.iload_n 1, 1) := by decide +kernel
theorem dX6_pass_6 : decode cX6_pass 6 = .ok (.bipush 10, 2) := by decide +kernel
theorem dX6_pass_8 : decode cX6_pass 8 = .ok (.if_icmp .le 13, 3) := by decide +kernel
theorem dX6_pass_11 : decode cX6_pass 11 = .ok (.new 56, 3) := by decide +kernel
theorem dX6_pass_14 : decode cX6_pass 14 = .ok (.dup, 1) := by decide +kernel
theorem dX6_pass_15 : decode cX6_pass 15 = .ok (.ldc 198, 2) := by decide +kernel
theorem dX6_pass_17 : decode cX6_pass 17 = .ok (.invokespecial 60, 3) := by decide +kernel
theorem dX6_pass_20 : decode cX6_pass 20 = .ok (.athrow, 1) := by decide +kernel
theorem dX6_pass_21 : decode cX6_pass 21 = .ok (.aload_n 0, 1) := by decide +kernel
theorem dX6_pass_22 : decode cX6_pass 22 = .ok (.getfield 31, 3) := by decide +kernel
theorem dX6_pass_25 : decode cX6_pass 25 = .ok (.iconst (-1), 1) := by decide +kernel
theorem dX6_pass_26 : decode cX6_pass 26 = .ok (.bipush 7, 2) := by decide +kernel
theorem dX6_pass_28 : decode cX6_pass 28 = .ok (.iload_n 1, 1) := by decide +kernel
theorem dX6_pass_29 : decode cX6_pass 29 = .ok (.iconst 0, 1) := by decide +kernel
theorem dX6_pass_30 : decode cX6_pass 30 = .ok (.invokevirtual 200, 3) := by decide +kernel
theorem dX6_pass_33 : decode cX6_pass 33 = .ok (.iconst 0, 1) := by decide +kernel
theorem dX6_pass_34 : decode cX6_pass 34 = .ok (.istore_n 2, 1) := by decide +kernel
theorem dX6_pass_35 : decode cX6_pass 35 = .ok (.iload_n 2, 1) := by decide +kernel
theorem dX6_pass_36 : decode cX6_pass 36 = .ok (.iload_n 1, 1) := by decide +kernel
theorem dX6_pass_37 : decode cX6_pass 37 = .ok (.if_icmp .ge 38, 3) := by decide +kernel
theorem dX6_pass_40 : decode cX6_pass 40 = .ok (.iconst 0, 1) := by decide +kernel
theorem dX6_pass_41 : decode cX6_pass 41 = .ok (.istore_n 3, 1) := by decide +kernel
theorem dX6_pass_42 : decode cX6_pass 42 = .ok (.iload_n 3, 1) := by decide +kernel
theorem dX6_pass_43 : decode cX6_pass 43 = .ok (.aload_n 0, 1) := by decide +kernel
theorem dX6_pass_44 : decode cX6_pass 44 = .ok (.getfield 25, 3) := by decide +kernel
theorem dX6_pass_47 : decode cX6_pass 47 = .ok (.if_icmp .ge 22, 3) := by decide +kernel
theorem dX6_pass_50 : decode cX6_pass 50 = .ok (.aload_n 0, 1) := by decide +kernel
theorem dX6_pass_51 : decode cX6_pass 51 = .ok (.aload_n 0, 1) := by decide +kernel
theorem dX6_pass_52 : decode cX6_pass 52 = .ok (.iload_n 3, 1) := by decide +kernel
theorem dX6_pass_53 : decode cX6_pass 53 = .ok (.invokevirtual 203, 3) := by decide +kernel
theorem dX6_pass_56 : decode cX6_pass 56 = .ok (.bipush 7, 2) := by decide +kernel
theorem dX6_pass_58 : decode cX6_pass 58 = .ok (.iconst 0, 1) := by decide +kernel
theorem dX6_pass_59 : decode cX6_pass 59 = .ok (.iconst 0, 1) := by decide +kernel
theorem dX6_pass_60 : decode cX6_pass 60 = .ok (.invokevirtual 206, 3) := by decide +kernel
theorem dX6_pass_63 : decode cX6_pass 63 = .ok (.iinc 3 1, 3) := by decide +kernel
theorem dX6_pass_66 : decode cX6_pass 66 = .ok (.goto (-24), 3) := by decide +kernel
theorem dX6_pass_69 : decode cX6_pass 69 = .ok (.iinc 2 1, 3) := by decide +kernel
theorem dX6_pass_72 : decode cX6_pass 72 = .ok (.goto (-37), 3) := by decide +kernel
theorem dX6_pass_75 : decode cX6_pass 75 = .ok (.aload_n 0, 1) := by decide +kernel
theorem dX6_pass_76 : decode cX6_pass 76 = .ok (.invokevirtual 210, 3) := by decide +kernel
theorem dX6_pass_79 : decode cX6_pass 79 = .ok (.ireturn, 1) := by decide +kernel
theorem dX6_state_0 : decode cX6_state 0 = .ok (.aload_n 0, 1) := by decide +kernel
theorem dX6_state_1 : decode cX6_state 1 = .ok (.iload_n 1, 1) := by decide +kernel
theorem dX6_state_2 : decode cX6_state 2 = .ok (.iload_n 2, 1) := by decide +kernel
theorem dX6_state_3 : decode cX6_state 3 = .ok (.invokevirtual 214, 3) := by decide +kernel
theorem dX6_state_6 : decode cX6_state 6 = .ok (.iload_n 2, 1) := by decide +kernel
theorem dX6_state_7 : decode cX6_state 7 = .ok (.invokevirtual 184, 3) := by decide +kernel
theorem dX6_state_10 : decode cX6_state 10 = .ok (.ireturn, 1) := by decide +kernel
theorem dX6_stateByReplay_0 : decode cX6_stateByReplay 0 = .ok (.aload_n 0, 1) := by decide +kernel
theorem dX6_stateByReplay_1 : decode cX6_stateByReplay 1 = .ok (.iload_n 1, 1) := by decide +kernel
theorem dX6_stateByReplay_2 : decode cX6_stateByReplay 2 = .ok (.iload_n 2, 1) := by decide +kernel
theorem dX6_stateByReplay_3 : decode cX6_stateByReplay 3 = .ok (.invokevirtual 214, 3) := by decide +kernel
theorem dX6_stateByReplay_6 : decode cX6_stateByReplay 6 = .ok (.pop, 1) := by decide +kernel
theorem dX6_stateByReplay_7 : decode cX6_stateByReplay 7 = .ok (.aload_n 0, 1) := by decide +kernel
theorem dX6_stateByReplay_8 : decode cX6_stateByReplay 8 = .ok (.iload_n 1, 1) := by decide +kernel
theorem dX6_stateByReplay_9 : decode cX6_stateByReplay 9 = .ok (.invokevirtual 218, 3) := by decide +kernel
theorem dX6_stateByReplay_12 : decode cX6_stateByReplay 12 = .ok (.aload_n 0, 1) := by decide +kernel
theorem dX6_stateByReplay_13 : decode cX6_stateByReplay 13 = .ok (.getfield 41, 3) := by decide +kernel
theorem dX6_stateByReplay_16 : decode cX6_stateByReplay 16 = .ok (.iload_n 2, 1) := by decide +kernel
theorem dX6_stateByReplay_17 : decode cX6_stateByReplay 17 = .ok (.invokevirtual 184, 3) := by decide +kernel
theorem dX6_stateByReplay_20 : decode cX6_stateByReplay 20 = .ok (.ireturn, 1) := by decide +kernel
theorem dX6_clock_0 : decode cX6_clock 0 = .ok (.aload_n 0, 1) := by decide +kernel
theorem dX6_clock_1 : decode cX6_clock 1 = .ok (.iload_n 1, 1) := by decide +kernel
theorem dX6_clock_2 : decode cX6_clock 2 = .ok (.iload_n 2, 1) := by decide +kernel
theorem dX6_clock_3 : decode cX6_clock 3 = .ok (.invokevirtual 214, 3) := by decide +kernel
theorem dX6_clock_6 : decode cX6_clock 6 = .ok (.iload_n 2, 1) := by decide +kernel
theorem dX6_clock_7 : decode cX6_clock 7 = .ok (.invokevirtual 221, 3) := by decide +kernel
theorem dX6_clock_10 : decode cX6_clock 10 = .ok (.ireturn, 1) := by decide +kernel
theorem dX6_clockByReplay_0 : decode cX6_clockByReplay 0 = .ok (.aload_n 0, 1) := by decide +kernel
theorem dX6_clockByReplay_1 : decode cX6_clockByReplay 1 = .ok (.iload_n 1, 1) := by decide +kernel
theorem dX6_clockByReplay_2 : decode cX6_clockByReplay 2 = .ok (.iload_n 2, 1) := by decide +kernel
theorem dX6_clockByReplay_3 : decode cX6_clockByReplay 3 = .ok (.invokevirtual 214, 3) := by decide +kernel
theorem dX6_clockByReplay_6 : decode cX6_clockByReplay 6 = .ok (.pop, 1) := by decide +kernel
theorem dX6_clockByReplay_7 : decode cX6_clockByReplay 7 = .ok (.aload_n 0, 1) := by decide +kernel
theorem dX6_clockByReplay_8 : decode cX6_clockByReplay 8 = .ok (.iload_n 1, 1) := by decide +kernel
theorem dX6_clockByReplay_9 : decode cX6_clockByReplay 9 = .ok (.invokevirtual 218, 3) := by decide +kernel
theorem dX6_clockByReplay_12 : decode cX6_clockByReplay 12 = .ok (.aload_n 0, 1) := by decide +kernel
theorem dX6_clockByReplay_13 : decode cX6_clockByReplay 13 = .ok (.getfield 41, 3) := by decide +kernel
theorem dX6_clockByReplay_16 : decode cX6_clockByReplay 16 = .ok (.iload_n 2, 1) := by decide +kernel
theorem dX6_clockByReplay_17 : decode cX6_clockByReplay 17 = .ok (.invokevirtual 221, 3) := by decide +kernel
theorem dX6_clockByReplay_20 : decode cX6_clockByReplay 20 = .ok (.ireturn, 1) := by decide +kernel
theorem dX6_count_0 : decode cX6_count 0 = .ok (.aload_n 0, 1) := by decide +kernel
theorem dX6_count_1 : decode cX6_count 1 = .ok (.iload_n 1, 1) := by decide +kernel
theorem dX6_count_2 : decode cX6_count 2 = .ok (.iload_n 2, 1) := by decide +kernel
theorem dX6_count_3 : decode cX6_count 3 = .ok (.invokevirtual 214, 3) := by decide +kernel
theorem dX6_count_6 : decode cX6_count 6 = .ok (.iload_n 2, 1) := by decide +kernel
theorem dX6_count_7 : decode cX6_count 7 = .ok (.invokevirtual 224, 3) := by decide +kernel
theorem dX6_count_10 : decode cX6_count 10 = .ok (.ireturn, 1) := by decide +kernel
theorem dX6_isLate_0 : decode cX6_isLate 0 = .ok (.aload_n 0, 1) := by decide +kernel
theorem dX6_isLate_1 : decode cX6_isLate 1 = .ok (.iload_n 1, 1) := by decide +kernel
theorem dX6_isLate_2 : decode cX6_isLate 2 = .ok (.iload_n 2, 1) := by decide +kernel
theorem dX6_isLate_3 : decode cX6_isLate 3 = .ok (.invokevirtual 214, 3) := by decide +kernel
theorem dX6_isLate_6 : decode cX6_isLate 6 = .ok (.astore_n 3, 1) := by decide +kernel
theorem dX6_isLate_7 : decode cX6_isLate 7 = .ok (.aload_n 3, 1) := by decide +kernel
theorem dX6_isLate_8 : decode cX6_isLate 8 = .ok (.iload_n 2, 1) := by decide +kernel
theorem dX6_isLate_9 : decode cX6_isLate 9 = .ok (.invokevirtual 227, 3) := by decide +kernel
theorem dX6_isLate_12 : decode cX6_isLate 12 = .ok (.ifCond .eq 15, 3) := by decide +kernel
theorem dX6_isLate_15 : decode cX6_isLate 15 = .ok (.aload_n 3, 1) := by decide +kernel
theorem dX6_isLate_16 : decode cX6_isLate 16 = .ok (.iload_n 2, 1) := by decide +kernel
theorem dX6_isLate_17 : decode cX6_isLate 17 = .ok (.invokevirtual 230, 3) := by decide +kernel
theorem dX6_isLate_20 : decode cX6_isLate 20 = .ok (.ifCond .gt 7, 3) := by decide +kernel
theorem dX6_isLate_23 : decode cX6_isLate 23 = .ok (.iconst 1, 1) := by decide +kernel
theorem dX6_isLate_24 : decode cX6_isLate 24 = .ok (.goto 4, 3) := by decide +kernel
theorem dX6_isLate_27 : decode cX6_isLate 27 = .ok (.iconst 0, 1) := by decide +kernel
theorem dX6_isLate_28 : decode cX6_isLate 28 = .ok (.ireturn, 1) := by decide +kernel
theorem dX6_daysLeft_0 : decode cX6_daysLeft 0 = .ok (.aload_n 0, 1) := by decide +kernel
theorem dX6_daysLeft_1 : decode cX6_daysLeft 1 = .ok (.iload_n 1, 1) := by decide +kernel
theorem dX6_daysLeft_2 : decode cX6_daysLeft 2 = .ok (.invokevirtual 151, 3) := by decide +kernel
theorem dX6_daysLeft_5 : decode cX6_daysLeft 5 = .ok (.invokevirtual 233, 3) := by decide +kernel
theorem dX6_daysLeft_8 : decode cX6_daysLeft 8 = .ok (.istore_n 2, 1) := by decide +kernel
theorem dX6_daysLeft_9 : decode cX6_daysLeft 9 = .ok (.iload_n 2, 1) := by decide +kernel
theorem dX6_daysLeft_10 : decode cX6_daysLeft 10 = .ok (.iconst (-1), 1) := by decide +kernel
theorem dX6_daysLeft_11 : decode cX6_daysLeft 11 = .ok (.if_icmp .ne 13, 3) := by decide +kernel
theorem dX6_daysLeft_14 : decode cX6_daysLeft 14 = .ok (.new 236, 3) := by decide +kernel
theorem dX6_daysLeft_17 : decode cX6_daysLeft 17 = .ok (.dup, 1) := by decide +kernel
theorem dX6_daysLeft_18 : decode cX6_daysLeft 18 = .ok (.ldc 238, 2) := by decide +kernel
theorem dX6_daysLeft_20 : decode cX6_daysLeft 20 = .ok (.invokespecial 240, 3) := by decide +kernel
theorem dX6_daysLeft_23 : decode cX6_daysLeft 23 = .ok (.athrow, 1) := by decide +kernel
theorem dX6_daysLeft_24 : decode cX6_daysLeft 24 = .ok (.iload_n 2, 1) := by decide +kernel
theorem dX6_daysLeft_25 : decode cX6_daysLeft 25 = .ok (.ireturn, 1) := by decide +kernel
theorem dX6_holds_0 : decode cX6_holds 0 = .ok (.aload_n 0, 1) := by decide +kernel
theorem dX6_holds_1 : decode cX6_holds 1 = .ok (.iload_n 1, 1) := by decide +kernel
theorem dX6_holds_2 : decode cX6_holds 2 = .ok (.invokevirtual 151, 3) := by decide +kernel
theorem dX6_holds_5 : decode cX6_holds 5 = .ok (.astore 5, 2) := by decide +kernel
theorem dX6_holds_7 : decode cX6_holds 7 = .ok (.aload 5, 2) := by decide +kernel
theorem dX6_holds_9 : decode cX6_holds 9 = .ok (.getfield 180, 3) := by decide +kernel
theorem dX6_holds_12 : decode cX6_holds 12 = .ok (.iload_n 2, 1) := by decide +kernel
theorem dX6_holds_13 : decode cX6_holds 13 = .ok (.invokestatic 84, 3) := by decide +kernel
theorem dX6_holds_16 : decode cX6_holds 16 = .ok (.astore 6, 2) := by decide +kernel
theorem dX6_holds_18 : decode cX6_holds 18 = .ok (.iload_n 3, 1) := by decide +kernel
theorem dX6_holds_19 : decode cX6_holds 19 = .ok (.ifCond .eq 11, 3) := by decide +kernel
theorem dX6_holds_22 : decode cX6_holds 22 = .ok (.aload 6, 2) := by decide +kernel
theorem dX6_holds_24 : decode cX6_holds 24 = .ok (.getfield 92, 3) := by decide +kernel
theorem dX6_holds_27 : decode cX6_holds 27 = .ok (.goto 8, 3) := by decide +kernel
theorem dX6_holds_30 : decode cX6_holds 30 = .ok (.aload 6, 2) := by decide +kernel
theorem dX6_holds_32 : decode cX6_holds 32 = .ok (.getfield 119, 3) := by decide +kernel
theorem dX6_holds_35 : decode cX6_holds 35 = .ok (.astore 7, 2) := by decide +kernel
theorem dX6_holds_37 : decode cX6_holds 37 = .ok (.aload 7, 2) := by decide +kernel
theorem dX6_holds_39 : decode cX6_holds 39 = .ok (.iload 4, 2) := by decide +kernel
theorem dX6_holds_41 : decode cX6_holds 41 = .ok (.invokevirtual 241, 3) := by decide +kernel
theorem dX6_holds_44 : decode cX6_holds 44 = .ok (.astore 8, 2) := by decide +kernel
theorem dX6_holds_46 : decode cX6_holds 46 = .ok (.aload 8, 2) := by decide +kernel
theorem dX6_holds_48 : decode cX6_holds 48 = .ok (.ifnonnull 13, 3) := by decide +kernel
theorem dX6_holds_51 : decode cX6_holds 51 = .ok (.new 236, 3) := by decide +kernel
theorem dX6_holds_54 : decode cX6_holds 54 = .ok (.dup, 1) := by decide +kernel
theorem dX6_holds_55 : decode cX6_holds 55 = .ok (.ldc 245, 2) := by decide +kernel
theorem dX6_holds_57 : decode cX6_holds 57 = .ok (.invokespecial 240, 3) := by decide +kernel
theorem dX6_holds_60 : decode cX6_holds 60 = .ok (.athrow, 1) := by decide +kernel
theorem dX6_holds_61 : decode cX6_holds 61 = .ok (.aload 5, 2) := by decide +kernel
theorem dX6_holds_63 : decode cX6_holds 63 = .ok (.aload 8, 2) := by decide +kernel
theorem dX6_holds_65 : decode cX6_holds 65 = .ok (.invokevirtual 247, 3) := by decide +kernel
theorem dX6_holds_68 : decode cX6_holds 68 = .ok (.ireturn, 1) := by decide +kernel
theorem dX6_active_0 : decode cX6_active 0 = .ok (.aload_n 0, 1) := by decide +kernel
theorem dX6_active_1 : decode cX6_active 1 = .ok (.iload_n 1, 1) := by decide +kernel
theorem dX6_active_2 : decode cX6_active 2 = .ok (.invokevirtual 151, 3) := by decide +kernel
theorem dX6_active_5 : decode cX6_active 5 = .ok (.bipush 97, 2) := by decide +kernel
theorem dX6_active_7 : decode cX6_active 7 = .ok (.invokevirtual 251, 3) := by decide +kernel
theorem dX6_active_10 : decode cX6_active 10 = .ok (.ireturn, 1) := by decide +kernel
theorem dX6_isOver_0 : decode cX6_isOver 0 = .ok (.aload_n 0, 1) := by decide +kernel
theorem dX6_isOver_1 : decode cX6_isOver 1 = .ok (.iload_n 1, 1) := by decide +kernel
theorem dX6_isOver_2 : decode cX6_isOver 2 = .ok (.invokevirtual 151, 3) := by decide +kernel
theorem dX6_isOver_5 : decode cX6_isOver 5 = .ok (.invokevirtual 255, 3) := by decide +kernel
theorem dX6_isOver_8 : decode cX6_isOver 8 = .ok (.ireturn, 1) := by decide +kernel
theorem dX6_rounds_0 : decode cX6_rounds 0 = .ok (.aload_n 0, 1) := by decide +kernel
theorem dX6_rounds_1 : decode cX6_rounds 1 = .ok (.iload_n 1, 1) := by decide +kernel
theorem dX6_rounds_2 : decode cX6_rounds 2 = .ok (.invokevirtual 151, 3) := by decide +kernel
theorem dX6_rounds_5 : decode cX6_rounds 5 = .ok (.getfield 259, 3) := by decide +kernel
theorem dX6_rounds_8 : decode cX6_rounds 8 = .ok (.ireturn, 1) := by decide +kernel
theorem dX6_datum_0 : decode cX6_datum 0 = .ok (.aload_n 0, 1) := by decide +kernel
theorem dX6_datum_1 : decode cX6_datum 1 = .ok (.iload_n 1, 1) := by decide +kernel
theorem dX6_datum_2 : decode cX6_datum 2 = .ok (.invokevirtual 151, 3) := by decide +kernel
theorem dX6_datum_5 : decode cX6_datum 5 = .ok (.astore_n 3, 1) := by decide +kernel
theorem dX6_datum_6 : decode cX6_datum 6 = .ok (.iload_n 2, 1) := by decide +kernel
theorem dX6_datum_7 : decode cX6_datum 7 = .ok (.invokestatic 155, 3) := by decide +kernel
theorem dX6_datum_10 : decode cX6_datum 10 = .ok (.ifCond .ne 13, 3) := by decide +kernel
theorem dX6_datum_13 : decode cX6_datum 13 = .ok (.new 56, 3) := by decide +kernel
theorem dX6_datum_16 : decode cX6_datum 16 = .ok (.dup, 1) := by decide +kernel
theorem dX6_datum_17 : decode cX6_datum 17 = .ok (.ldc 158, 2) := by decide +kernel
theorem dX6_datum_19 : decode cX6_datum 19 = .ok (.invokespecial 60, 3) := by decide +kernel
theorem dX6_datum_22 : decode cX6_datum 22 = .ok (.athrow, 1) := by decide +kernel
theorem dX6_datum_23 : decode cX6_datum 23 = .ok (.aload_n 3, 1) := by decide +kernel
theorem dX6_datum_24 : decode cX6_datum 24 = .ok (.iload_n 2, 1) := by decide +kernel
theorem dX6_datum_25 : decode cX6_datum 25 = .ok (.invokevirtual 165, 3) := by decide +kernel
theorem dX6_datum_28 : decode cX6_datum 28 = .ok (.ireturn, 1) := by decide +kernel
theorem dX6_days_0 : decode cX6_days 0 = .ok (.aload_n 0, 1) := by decide +kernel
theorem dX6_days_1 : decode cX6_days 1 = .ok (.iload_n 1, 1) := by decide +kernel
theorem dX6_days_2 : decode cX6_days 2 = .ok (.invokevirtual 151, 3) := by decide +kernel
theorem dX6_days_5 : decode cX6_days 5 = .ok (.getfield 262, 3) := by decide +kernel
theorem dX6_days_8 : decode cX6_days 8 = .ok (.ireturn, 1) := by decide +kernel
theorem dX6_planOf_0 : decode cX6_planOf 0 = .ok (.aload_n 0, 1) := by decide +kernel
theorem dX6_planOf_1 : decode cX6_planOf 1 = .ok (.iload_n 1, 1) := by decide +kernel
theorem dX6_planOf_2 : decode cX6_planOf 2 = .ok (.invokevirtual 151, 3) := by decide +kernel
theorem dX6_planOf_5 : decode cX6_planOf 5 = .ok (.getfield 180, 3) := by decide +kernel
theorem dX6_planOf_8 : decode cX6_planOf 8 = .ok (.getfield 195, 3) := by decide +kernel
theorem dX6_planOf_11 : decode cX6_planOf 11 = .ok (.ireturn, 1) := by decide +kernel
theorem dX6_isWaiting_0 : decode cX6_isWaiting 0 = .ok (.aload_n 0, 1) := by decide +kernel
theorem dX6_isWaiting_1 : decode cX6_isWaiting 1 = .ok (.iload_n 1, 1) := by decide +kernel
theorem dX6_isWaiting_2 : decode cX6_isWaiting 2 = .ok (.invokevirtual 151, 3) := by decide +kernel
theorem dX6_isWaiting_5 : decode cX6_isWaiting 5 = .ok (.getfield 190, 3) := by decide +kernel
theorem dX6_isWaiting_8 : decode cX6_isWaiting 8 = .ok (.ireturn, 1) := by decide +kernel
theorem dX6_happened_0 : decode cX6_happened 0 = .ok (.aload_n 0, 1) := by decide +kernel
theorem dX6_happened_1 : decode cX6_happened 1 = .ok (.iload_n 1, 1) := by decide +kernel
theorem dX6_happened_2 : decode cX6_happened 2 = .ok (.invokevirtual 151, 3) := by decide +kernel
theorem dX6_happened_5 : decode cX6_happened 5 = .ok (.getfield 265, 3) := by decide +kernel
theorem dX6_happened_8 : decode cX6_happened 8 = .ok (.ireturn, 1) := by decide +kernel
theorem dX6_cases_0 : decode cX6_cases 0 = .ok (.aload_n 0, 1) := by decide +kernel
theorem dX6_cases_1 : decode cX6_cases 1 = .ok (.getfield 25, 3) := by decide +kernel
theorem dX6_cases_4 : decode cX6_cases 4 = .ok (.ireturn, 1) := by decide +kernel
theorem dX6_daysWorked_0 : decode cX6_daysWorked 0 = .ok (.lconst 0, 1) := by decide +kernel
theorem dX6_daysWorked_1 : decode cX6_daysWorked 1 = .ok (.lstore_n 1, 1) := by decide +kernel
theorem dX6_daysWorked_2 : decode cX6_daysWorked 2 = .ok (.iconst 0, 1) := by decide +kernel
theorem dX6_daysWorked_3 : decode cX6_daysWorked 3 = .ok (.istore_n 3, 1) := by decide +kernel
theorem dX6_daysWorked_4 : decode cX6_daysWorked 4 = .ok (.iload_n 3, 1) := by decide +kernel
theorem dX6_daysWorked_5 : decode cX6_daysWorked 5 = .ok (.aload_n 0, 1) := by decide +kernel
theorem dX6_daysWorked_6 : decode cX6_daysWorked 6 = .ok (.getfield 25, 3) := by decide +kernel
theorem dX6_daysWorked_9 : decode cX6_daysWorked 9 = .ok (.if_icmp .ge 29, 3) := by decide +kernel
theorem dX6_daysWorked_12 : decode cX6_daysWorked 12 = .ok (.aload_n 0, 1) := by decide +kernel
theorem dX6_daysWorked_13 : decode cX6_daysWorked 13 = .ok (.iload_n 3, 1) := by decide +kernel
theorem dX6_daysWorked_14 : decode cX6_daysWorked 14 = .ok (.invokevirtual 203, 3) := by decide +kernel
theorem dX6_daysWorked_17 : decode cX6_daysWorked 17 = .ok (.astore 4, 2) := by decide +kernel
theorem dX6_daysWorked_19 : decode cX6_daysWorked 19 = .ok (.aload 4, 2) := by decide +kernel
theorem dX6_daysWorked_21 : decode cX6_daysWorked 21 = .ok (.ifnull 11, 3) := by decide +kernel
theorem dX6_daysWorked_24 : decode cX6_daysWorked 24 = .ok (.lload_n 1, 1) := by decide +kernel
theorem dX6_daysWorked_25 : decode cX6_daysWorked 25 = .ok (.aload 4, 2) := by decide +kernel
theorem dX6_daysWorked_27 : decode cX6_daysWorked 27 = .ok (.invokevirtual 268, 3) := by decide +kernel
theorem dX6_daysWorked_30 : decode cX6_daysWorked 30 = .ok (.ladd, 1) := by decide +kernel
theorem dX6_daysWorked_31 : decode cX6_daysWorked 31 = .ok (.lstore_n 1, 1) := by decide +kernel
theorem dX6_daysWorked_32 : decode cX6_daysWorked 32 = .ok (.iinc 3 1, 3) := by decide +kernel
theorem dX6_daysWorked_35 : decode cX6_daysWorked 35 = .ok (.goto (-31), 3) := by decide +kernel
theorem dX6_daysWorked_38 : decode cX6_daysWorked 38 = .ok (.lload_n 1, 1) := by decide +kernel
theorem dX6_daysWorked_39 : decode cX6_daysWorked 39 = .ok (.lreturn, 1) := by decide +kernel
theorem dX6_doneShare_0 : decode cX6_doneShare 0 = .ok (.aload_n 0, 1) := by decide +kernel
theorem dX6_doneShare_1 : decode cX6_doneShare 1 = .ok (.iload_n 1, 1) := by decide +kernel
theorem dX6_doneShare_2 : decode cX6_doneShare 2 = .ok (.invokevirtual 151, 3) := by decide +kernel
theorem dX6_doneShare_5 : decode cX6_doneShare 5 = .ok (.astore_n 2, 1) := by decide +kernel
theorem dX6_doneShare_6 : decode cX6_doneShare 6 = .ok (.aload_n 2, 1) := by decide +kernel
theorem dX6_doneShare_7 : decode cX6_doneShare 7 = .ok (.getfield 180, 3) := by decide +kernel
theorem dX6_doneShare_10 : decode cX6_doneShare 10 = .ok (.getfield 70, 3) := by decide +kernel
theorem dX6_doneShare_13 : decode cX6_doneShare 13 = .ok (.istore_n 3, 1) := by decide +kernel
theorem dX6_doneShare_14 : decode cX6_doneShare 14 = .ok (.iload_n 3, 1) := by decide +kernel
theorem dX6_doneShare_15 : decode cX6_doneShare 15 = .ok (.ifCond .gt 5, 3) := by decide +kernel
theorem dX6_doneShare_18 : decode cX6_doneShare 18 = .ok (.fconst 0, 1) := by decide +kernel
theorem dX6_doneShare_19 : decode cX6_doneShare 19 = .ok (.freturn, 1) := by decide +kernel
theorem dX6_doneShare_20 : decode cX6_doneShare 20 = .ok (.aload_n 2, 1) := by decide +kernel
theorem dX6_doneShare_21 : decode cX6_doneShare 21 = .ok (.bipush 99, 2) := by decide +kernel
theorem dX6_doneShare_23 : decode cX6_doneShare 23 = .ok (.invokevirtual 251, 3) := by decide +kernel
theorem dX6_doneShare_26 : decode cX6_doneShare 26 = .ok (.i2f, 1) := by decide +kernel
theorem dX6_doneShare_27 : decode cX6_doneShare 27 = .ok (.iload_n 3, 1) := by decide +kernel
theorem dX6_doneShare_28 : decode cX6_doneShare 28 = .ok (.i2f, 1) := by decide +kernel
theorem dX6_doneShare_29 : decode cX6_doneShare 29 = .ok (.fdiv, 1) := by decide +kernel
theorem dX6_doneShare_30 : decode cX6_doneShare 30 = .ok (.freturn, 1) := by decide +kernel
theorem dX6_isDatum_0 : decode cX6_isDatum 0 = .ok (.iload_n 0, 1) := by decide +kernel
theorem dX6_isDatum_1 : decode cX6_isDatum 1 = .ok (.ifCond .lt 12, 3) := by decide +kernel
theorem dX6_isDatum_4 : decode cX6_isDatum 4 = .ok (.iload_n 0, 1) := by decide +kernel
theorem dX6_isDatum_5 : decode cX6_isDatum 5 = .ok (.iconst 4, 1) := by decide +kernel
theorem dX6_isDatum_6 : decode cX6_isDatum 6 = .ok (.if_icmp .ge 7, 3) := by decide +kernel
theorem dX6_isDatum_9 : decode cX6_isDatum 9 = .ok (.iconst 1, 1) := by decide +kernel
theorem dX6_isDatum_10 : decode cX6_isDatum 10 = .ok (.goto 4, 3) := by decide +kernel
theorem dX6_isDatum_13 : decode cX6_isDatum 13 = .ok (.iconst 0, 1) := by decide +kernel
theorem dX6_isDatum_14 : decode cX6_isDatum 14 = .ok (.ireturn, 1) := by decide +kernel
theorem dX6_isEvent_0 : decode cX6_isEvent 0 = .ok (.iload_n 0, 1) := by decide +kernel
theorem dX6_isEvent_1 : decode cX6_isEvent 1 = .ok (.ifCond .lt 13, 3) := by decide +kernel
theorem dX6_isEvent_4 : decode cX6_isEvent 4 = .ok (.iload_n 0, 1) := by decide +kernel
theorem dX6_isEvent_5 : decode cX6_isEvent 5 = .ok (.bipush 10, 2) := by decide +kernel
theorem dX6_isEvent_7 : decode cX6_isEvent 7 = .ok (.if_icmp .ge 7, 3) := by decide +kernel
theorem dX6_isEvent_10 : decode cX6_isEvent 10 = .ok (.iconst 1, 1) := by decide +kernel
theorem dX6_isEvent_11 : decode cX6_isEvent 11 = .ok (.goto 4, 3) := by decide +kernel
theorem dX6_isEvent_14 : decode cX6_isEvent 14 = .ok (.iconst 0, 1) := by decide +kernel
theorem dX6_isEvent_15 : decode cX6_isEvent 15 = .ok (.ireturn, 1) := by decide +kernel
theorem dX6_isValue_0 : decode cX6_isValue 0 = .ok (.iload_n 0, 1) := by decide +kernel
theorem dX6_isValue_1 : decode cX6_isValue 1 = .ok (.bipush (-99), 2) := by decide +kernel
theorem dX6_isValue_3 : decode cX6_isValue 3 = .ok (.if_icmp .lt 13, 3) := by decide +kernel
theorem dX6_isValue_6 : decode cX6_isValue 6 = .ok (.iload_n 0, 1) := by decide +kernel
theorem dX6_isValue_7 : decode cX6_isValue 7 = .ok (.bipush 99, 2) := by decide +kernel
theorem dX6_isValue_9 : decode cX6_isValue 9 = .ok (.if_icmp .gt 7, 3) := by decide +kernel
theorem dX6_isValue_12 : decode cX6_isValue 12 = .ok (.iconst 1, 1) := by decide +kernel
theorem dX6_isValue_13 : decode cX6_isValue 13 = .ok (.goto 4, 3) := by decide +kernel
theorem dX6_isValue_16 : decode cX6_isValue 16 = .ok (.iconst 0, 1) := by decide +kernel
theorem dX6_isValue_17 : decode cX6_isValue 17 = .ok (.ireturn, 1) := by decide +kernel
theorem dX6_isCondition_0 : decode cX6_isCondition 0 = .ok (.iload_n 1, 1) := by decide +kernel
theorem dX6_isCondition_1 : decode cX6_isCondition 1 = .ok (.bipush 100, 2) := by decide +kernel
theorem dX6_isCondition_3 : decode cX6_isCondition 3 = .ok (.if_icmp .eq 9, 3) := by decide +kernel
theorem dX6_isCondition_6 : decode cX6_isCondition 6 = .ok (.iload_n 1, 1) := by decide +kernel
theorem dX6_isCondition_7 : decode cX6_isCondition 7 = .ok (.bipush 108, 2) := by decide +kernel
theorem dX6_isCondition_9 : decode cX6_isCondition 9 = .ok (.if_icmp .ne 23, 3) := by decide +kernel
theorem dX6_isCondition_12 : decode cX6_isCondition 12 = .ok (.iload_n 2, 1) := by decide +kernel
theorem dX6_isCondition_13 : decode cX6_isCondition 13 = .ok (.invokestatic 155, 3) := by decide +kernel
theorem dX6_isCondition_16 : decode cX6_isCondition 16 = .ok (.ifCond .eq 14, 3) := by decide +kernel
theorem dX6_isCondition_19 : decode cX6_isCondition 19 = .ok (.iload_n 3, 1) := by decide +kernel
theorem dX6_isCondition_20 : decode cX6_isCondition 20 = .ok (.invokestatic 160, 3) := by decide +kernel
theorem dX6_isCondition_23 : decode cX6_isCondition 23 = .ok (.ifCond .eq 7, 3) := by decide +kernel
theorem dX6_isCondition_26 : decode cX6_isCondition 26 = .ok (.iconst 1, 1) := by decide +kernel
theorem dX6_isCondition_27 : decode cX6_isCondition 27 = .ok (.goto 4, 3) := by decide +kernel
theorem dX6_isCondition_30 : decode cX6_isCondition 30 = .ok (.iconst 0, 1) := by decide +kernel
theorem dX6_isCondition_31 : decode cX6_isCondition 31 = .ok (.ireturn, 1) := by decide +kernel
theorem dX6_isCondition_32 : decode cX6_isCondition 32 = .ok (.iload_n 1, 1) := by decide +kernel
theorem dX6_isCondition_33 : decode cX6_isCondition 33 = .ok (.bipush 101, 2) := by decide +kernel
theorem dX6_isCondition_35 : decode cX6_isCondition 35 = .ok (.if_icmp .ne 8, 3) := by decide +kernel
theorem dX6_isCondition_38 : decode cX6_isCondition 38 = .ok (.iload_n 2, 1) := by decide +kernel
theorem dX6_isCondition_39 : decode cX6_isCondition 39 = .ok (.invokestatic 169, 3) := by decide +kernel
theorem dX6_isCondition_42 : decode cX6_isCondition 42 = .ok (.ireturn, 1) := by decide +kernel
theorem dX6_isCondition_43 : decode cX6_isCondition 43 = .ok (.iload_n 1, 1) := by decide +kernel
theorem dX6_isCondition_44 : decode cX6_isCondition 44 = .ok (.bipush 99, 2) := by decide +kernel
theorem dX6_isCondition_46 : decode cX6_isCondition 46 = .ok (.if_icmp .ne 17, 3) := by decide +kernel
theorem dX6_isCondition_49 : decode cX6_isCondition 49 = .ok (.aload_n 0, 1) := by decide +kernel
theorem dX6_isCondition_50 : decode cX6_isCondition 50 = .ok (.iload_n 2, 1) := by decide +kernel
theorem dX6_isCondition_51 : decode cX6_isCondition 51 = .ok (.invokevirtual 272, 3) := by decide +kernel
theorem dX6_isCondition_54 : decode cX6_isCondition 54 = .ok (.ifnull 7, 3) := by decide +kernel
theorem dX6_isCondition_57 : decode cX6_isCondition 57 = .ok (.iconst 1, 1) := by decide +kernel
theorem dX6_isCondition_58 : decode cX6_isCondition 58 = .ok (.goto 4, 3) := by decide +kernel
theorem dX6_isCondition_61 : decode cX6_isCondition 61 = .ok (.iconst 0, 1) := by decide +kernel
theorem dX6_isCondition_62 : decode cX6_isCondition 62 = .ok (.ireturn, 1) := by decide +kernel
theorem dX6_isCondition_63 : decode cX6_isCondition 63 = .ok (.iload_n 1, 1) := by decide +kernel
theorem dX6_isCondition_64 : decode cX6_isCondition 64 = .ok (.bipush 116, 2) := by decide +kernel
theorem dX6_isCondition_66 : decode cX6_isCondition 66 = .ok (.if_icmp .ne 18, 3) := by decide +kernel
theorem dX6_isCondition_69 : decode cX6_isCondition 69 = .ok (.iload_n 2, 1) := by decide +kernel
theorem dX6_isCondition_70 : decode cX6_isCondition 70 = .ok (.ifCond .lt 14, 3) := by decide +kernel
theorem dX6_isCondition_73 : decode cX6_isCondition 73 = .ok (.iload_n 2, 1) := by decide +kernel
theorem dX6_isCondition_74 : decode cX6_isCondition 74 = .ok (.sipush 999, 3) := by decide +kernel
theorem dX6_isCondition_77 : decode cX6_isCondition 77 = .ok (.if_icmp .gt 7, 3) := by decide +kernel
theorem dX6_isCondition_80 : decode cX6_isCondition 80 = .ok (.iconst 1, 1) := by decide +kernel
theorem dX6_isCondition_81 : decode cX6_isCondition 81 = .ok (.goto 4, 3) := by decide +kernel
theorem dX6_isCondition_84 : decode cX6_isCondition 84 = .ok (.iconst 0, 1) := by decide +kernel
theorem dX6_isCondition_85 : decode cX6_isCondition 85 = .ok (.ireturn, 1) := by decide +kernel
theorem dX6_refuseWrongCondition_0 : decode cX6_refuseWrongCondition 0 = .ok (.aload_n 0, 1) := by decide +kernel
theorem dX6_refuseWrongCondition_1 : decode cX6_refuseWrongCondition 1 = .ok (.iload_n 1, 1) := by decide +kernel
theorem dX6_refuseWrongCondition_2 : decode cX6_refuseWrongCondition 2 = .ok (.iload_n 2, 1) := by decide +kernel
theorem dX6_refuseWrongCondition_3 : decode cX6_refuseWrongCondition 3 = .ok (.iload_n 3, 1) := by decide +kernel
theorem dX6_refuseWrongCondition_4 : decode cX6_refuseWrongCondition 4 = .ok (.invokestatic 276, 3) := by decide +kernel
theorem dX6_refuseWrongCondition_7 : decode cX6_refuseWrongCondition 7 = .ok (.ifCond .ne 14, 3) := by decide +kernel
theorem dX6_refuseWrongCondition_10 : decode cX6_refuseWrongCondition 10 = .ok (.new 56, 3) := by decide +kernel
theorem dX6_refuseWrongCondition_13 : decode cX6_refuseWrongCondition 13 = .ok (.dup, 1) := by decide +kernel
theorem dX6_refuseWrongCondition_14 : decode cX6_refuseWrongCondition 14 = .ok (.ldc_w 280, 3) := by decide +kernel
theorem dX6_refuseWrongCondition_17 : decode cX6_refuseWrongCondition 17 = .ok (.invokespecial 60, 3) := by decide +kernel
theorem dX6_refuseWrongCondition_20 : decode cX6_refuseWrongCondition 20 = .ok (.athrow, 1) := by decide +kernel
theorem dX6_refuseWrongCondition_21 : decode cX6_refuseWrongCondition 21 = .ok (.return_, 1) := by decide +kernel
theorem dX6_refuseFull_0 : decode cX6_refuseFull 0 = .ok (.aload_n 0, 1) := by decide +kernel
theorem dX6_refuseFull_1 : decode cX6_refuseFull 1 = .ok (.getfield 282, 3) := by decide +kernel
theorem dX6_refuseFull_4 : decode cX6_refuseFull 4 = .ok (.iconst 3, 1) := by decide +kernel
theorem dX6_refuseFull_5 : decode cX6_refuseFull 5 = .ok (.if_icmp .lt 14, 3) := by decide +kernel
theorem dX6_refuseFull_8 : decode cX6_refuseFull 8 = .ok (.new 45, 3) := by decide +kernel
theorem dX6_refuseFull_11 : decode cX6_refuseFull 11 = .ok (.dup, 1) := by decide +kernel
theorem dX6_refuseFull_12 : decode cX6_refuseFull 12 = .ok (.ldc_w 283, 3) := by decide +kernel
theorem dX6_refuseFull_15 : decode cX6_refuseFull 15 = .ok (.invokespecial 49, 3) := by decide +kernel
theorem dX6_refuseFull_18 : decode cX6_refuseFull 18 = .ok (.athrow, 1) := by decide +kernel
theorem dX6_refuseFull_19 : decode cX6_refuseFull 19 = .ok (.return_, 1) := by decide +kernel
theorem dX6_refuseUsed_0 : decode cX6_refuseUsed 0 = .ok (.aload_n 0, 1) := by decide +kernel
theorem dX6_refuseUsed_1 : decode cX6_refuseUsed 1 = .ok (.getfield 140, 3) := by decide +kernel
theorem dX6_refuseUsed_4 : decode cX6_refuseUsed 4 = .ok (.ifCond .eq 14, 3) := by decide +kernel
theorem dX6_refuseUsed_7 : decode cX6_refuseUsed 7 = .ok (.new 45, 3) := by decide +kernel
theorem dX6_refuseUsed_10 : decode cX6_refuseUsed 10 = .ok (.dup, 1) := by decide +kernel
theorem dX6_refuseUsed_11 : decode cX6_refuseUsed 11 = .ok (.ldc_w 285, 3) := by decide +kernel
theorem dX6_refuseUsed_14 : decode cX6_refuseUsed 14 = .ok (.invokespecial 49, 3) := by decide +kernel
theorem dX6_refuseUsed_17 : decode cX6_refuseUsed 17 = .ok (.athrow, 1) := by decide +kernel
theorem dX6_refuseUsed_18 : decode cX6_refuseUsed 18 = .ok (.return_, 1) := by decide +kernel
theorem dX6_refuseOtherThanTask_0 : decode cX6_refuseOtherThanTask 0 = .ok (.aload_n 0, 1) := by decide +kernel
theorem dX6_refuseOtherThanTask_1 : decode cX6_refuseOtherThanTask 1 = .ok (.getfield 110, 3) := by decide +kernel
theorem dX6_refuseOtherThanTask_4 : decode cX6_refuseOtherThanTask 4 = .ok (.bipush 116, 2) := by decide +kernel
theorem dX6_refuseOtherThanTask_6 : decode cX6_refuseOtherThanTask 6 = .ok (.if_icmp .eq 14, 3) := by decide +kernel
theorem dX6_refuseOtherThanTask_9 : decode cX6_refuseOtherThanTask 9 = .ok (.new 114, 3) := by decide +kernel
theorem dX6_refuseOtherThanTask_12 : decode cX6_refuseOtherThanTask 12 = .ok (.dup, 1) := by decide +kernel
theorem dX6_refuseOtherThanTask_13 : decode cX6_refuseOtherThanTask 13 = .ok (.ldc_w 287, 3) := by decide +kernel
theorem dX6_refuseOtherThanTask_16 : decode cX6_refuseOtherThanTask 16 = .ok (.invokespecial 118, 3) := by decide +kernel
theorem dX6_refuseOtherThanTask_19 : decode cX6_refuseOtherThanTask 19 = .ok (.athrow, 1) := by decide +kernel
theorem dX6_refuseOtherThanTask_20 : decode cX6_refuseOtherThanTask 20 = .ok (.return_, 1) := by decide +kernel
theorem dX6_planAt_0 : decode cX6_planAt 0 = .ok (.iload_n 1, 1) := by decide +kernel
theorem dX6_planAt_1 : decode cX6_planAt 1 = .ok (.ifCond .lt 16, 3) := by decide +kernel
theorem dX6_planAt_4 : decode cX6_planAt 4 = .ok (.iload_n 1, 1) := by decide +kernel
theorem dX6_planAt_5 : decode cX6_planAt 5 = .ok (.aload_n 0, 1) := by decide +kernel
theorem dX6_planAt_6 : decode cX6_planAt 6 = .ok (.getfield 15, 3) := by decide +kernel
theorem dX6_planAt_9 : decode cX6_planAt 9 = .ok (.if_icmp .ge 8, 3) := by decide +kernel
theorem dX6_planAt_12 : decode cX6_planAt 12 = .ok (.iload_n 1, 1) := by decide +kernel
theorem dX6_planAt_13 : decode cX6_planAt 13 = .ok (.iconst 3, 1) := by decide +kernel
theorem dX6_planAt_14 : decode cX6_planAt 14 = .ok (.if_icmp .lt 7, 3) := by decide +kernel
theorem dX6_planAt_17 : decode cX6_planAt 17 = .ok (.aconst_null, 1) := by decide +kernel
theorem dX6_planAt_18 : decode cX6_planAt 18 = .ok (.goto 9, 3) := by decide +kernel
theorem dX6_planAt_21 : decode cX6_planAt 21 = .ok (.aload_n 0, 1) := by decide +kernel
theorem dX6_planAt_22 : decode cX6_planAt 22 = .ok (.getfield 11, 3) := by decide +kernel
theorem dX6_planAt_25 : decode cX6_planAt 25 = .ok (.iload_n 1, 1) := by decide +kernel
theorem dX6_planAt_26 : decode cX6_planAt 26 = .ok (.aaload, 1) := by decide +kernel
theorem dX6_planAt_27 : decode cX6_planAt 27 = .ok (.areturn, 1) := by decide +kernel
theorem dX6_caseAt_0 : decode cX6_caseAt 0 = .ok (.iload_n 1, 1) := by decide +kernel
theorem dX6_caseAt_1 : decode cX6_caseAt 1 = .ok (.ifCond .lt 16, 3) := by decide +kernel
theorem dX6_caseAt_4 : decode cX6_caseAt 4 = .ok (.iload_n 1, 1) := by decide +kernel
theorem dX6_caseAt_5 : decode cX6_caseAt 5 = .ok (.aload_n 0, 1) := by decide +kernel
theorem dX6_caseAt_6 : decode cX6_caseAt 6 = .ok (.getfield 25, 3) := by decide +kernel
theorem dX6_caseAt_9 : decode cX6_caseAt 9 = .ok (.if_icmp .ge 8, 3) := by decide +kernel
theorem dX6_caseAt_12 : decode cX6_caseAt 12 = .ok (.iload_n 1, 1) := by decide +kernel
theorem dX6_caseAt_13 : decode cX6_caseAt 13 = .ok (.iconst 4, 1) := by decide +kernel
theorem dX6_caseAt_14 : decode cX6_caseAt 14 = .ok (.if_icmp .lt 7, 3) := by decide +kernel
theorem dX6_caseAt_17 : decode cX6_caseAt 17 = .ok (.aconst_null, 1) := by decide +kernel
theorem dX6_caseAt_18 : decode cX6_caseAt 18 = .ok (.goto 9, 3) := by decide +kernel
theorem dX6_caseAt_21 : decode cX6_caseAt 21 = .ok (.aload_n 0, 1) := by decide +kernel
theorem dX6_caseAt_22 : decode cX6_caseAt 22 = .ok (.getfield 21, 3) := by decide +kernel
theorem dX6_caseAt_25 : decode cX6_caseAt 25 = .ok (.iload_n 1, 1) := by decide +kernel
theorem dX6_caseAt_26 : decode cX6_caseAt 26 = .ok (.aaload, 1) := by decide +kernel
theorem dX6_caseAt_27 : decode cX6_caseAt 27 = .ok (.areturn, 1) := by decide +kernel
theorem dX6_existingPlan_0 : decode cX6_existingPlan 0 = .ok (.aload_n 0, 1) := by decide +kernel
theorem dX6_existingPlan_1 : decode cX6_existingPlan 1 = .ok (.iload_n 1, 1) := by decide +kernel
theorem dX6_existingPlan_2 : decode cX6_existingPlan 2 = .ok (.invokevirtual 289, 3) := by decide +kernel
theorem dX6_existingPlan_5 : decode cX6_existingPlan 5 = .ok (.astore_n 2, 1) := by decide +kernel
theorem dX6_existingPlan_6 : decode cX6_existingPlan 6 = .ok (.aload_n 2, 1) := by decide +kernel
theorem dX6_existingPlan_7 : decode cX6_existingPlan 7 = .ok (.ifnonnull 14, 3) := by decide +kernel
theorem dX6_existingPlan_10 : decode cX6_existingPlan 10 = .ok (.new 292, 3) := by decide +kernel
theorem dX6_existingPlan_13 : decode cX6_existingPlan 13 = .ok (.dup, 1) := by decide +kernel
theorem dX6_existingPlan_14 : decode cX6_existingPlan 14 = .ok (.ldc_w 294, 3) := by decide +kernel
theorem dX6_existingPlan_17 : decode cX6_existingPlan 17 = .ok (.invokespecial 296, 3) := by decide +kernel
theorem dX6_existingPlan_20 : decode cX6_existingPlan 20 = .ok (.athrow, 1) := by decide +kernel
theorem dX6_existingPlan_21 : decode cX6_existingPlan 21 = .ok (.aload_n 2, 1) := by decide +kernel
theorem dX6_existingPlan_22 : decode cX6_existingPlan 22 = .ok (.areturn, 1) := by decide +kernel
theorem dX6_existingCase_0 : decode cX6_existingCase 0 = .ok (.aload_n 0, 1) := by decide +kernel
theorem dX6_existingCase_1 : decode cX6_existingCase 1 = .ok (.iload_n 1, 1) := by decide +kernel
theorem dX6_existingCase_2 : decode cX6_existingCase 2 = .ok (.invokevirtual 203, 3) := by decide +kernel
theorem dX6_existingCase_5 : decode cX6_existingCase 5 = .ok (.astore_n 2, 1) := by decide +kernel
theorem dX6_existingCase_6 : decode cX6_existingCase 6 = .ok (.aload_n 2, 1) := by decide +kernel
theorem dX6_existingCase_7 : decode cX6_existingCase 7 = .ok (.ifnonnull 14, 3) := by decide +kernel
theorem dX6_existingCase_10 : decode cX6_existingCase 10 = .ok (.new 292, 3) := by decide +kernel
theorem dX6_existingCase_13 : decode cX6_existingCase 13 = .ok (.dup, 1) := by decide +kernel
theorem dX6_existingCase_14 : decode cX6_existingCase 14 = .ok (.ldc_w 297, 3) := by decide +kernel
theorem dX6_existingCase_17 : decode cX6_existingCase 17 = .ok (.invokespecial 296, 3) := by decide +kernel
theorem dX6_existingCase_20 : decode cX6_existingCase 20 = .ok (.athrow, 1) := by decide +kernel
theorem dX6_existingCase_21 : decode cX6_existingCase 21 = .ok (.aload_n 2, 1) := by decide +kernel
theorem dX6_existingCase_22 : decode cX6_existingCase 22 = .ok (.areturn, 1) := by decide +kernel
theorem dX6_existingStep_0 : decode cX6_existingStep 0 = .ok (.aload_n 0, 1) := by decide +kernel
theorem dX6_existingStep_1 : decode cX6_existingStep 1 = .ok (.iload_n 1, 1) := by decide +kernel
theorem dX6_existingStep_2 : decode cX6_existingStep 2 = .ok (.invokevirtual 272, 3) := by decide +kernel
theorem dX6_existingStep_5 : decode cX6_existingStep 5 = .ok (.astore_n 2, 1) := by decide +kernel
theorem dX6_existingStep_6 : decode cX6_existingStep 6 = .ok (.aload_n 2, 1) := by decide +kernel
theorem dX6_existingStep_7 : decode cX6_existingStep 7 = .ok (.ifnonnull 14, 3) := by decide +kernel
theorem dX6_existingStep_10 : decode cX6_existingStep 10 = .ok (.new 292, 3) := by decide +kernel
theorem dX6_existingStep_13 : decode cX6_existingStep 13 = .ok (.dup, 1) := by decide +kernel
theorem dX6_existingStep_14 : decode cX6_existingStep 14 = .ok (.ldc_w 299, 3) := by decide +kernel
theorem dX6_existingStep_17 : decode cX6_existingStep 17 = .ok (.invokespecial 296, 3) := by decide +kernel
theorem dX6_existingStep_20 : decode cX6_existingStep 20 = .ok (.athrow, 1) := by decide +kernel
theorem dX6_existingStep_21 : decode cX6_existingStep 21 = .ok (.aload_n 2, 1) := by decide +kernel
theorem dX6_existingStep_22 : decode cX6_existingStep 22 = .ok (.areturn, 1) := by decide +kernel
theorem dX6_caseWithStep_0 : decode cX6_caseWithStep 0 = .ok (.aload_n 0, 1) := by decide +kernel
theorem dX6_caseWithStep_1 : decode cX6_caseWithStep 1 = .ok (.iload_n 1, 1) := by decide +kernel
theorem dX6_caseWithStep_2 : decode cX6_caseWithStep 2 = .ok (.invokevirtual 151, 3) := by decide +kernel
theorem dX6_caseWithStep_5 : decode cX6_caseWithStep 5 = .ok (.astore_n 3, 1) := by decide +kernel
theorem dX6_caseWithStep_6 : decode cX6_caseWithStep 6 = .ok (.aload_n 3, 1) := by decide +kernel
theorem dX6_caseWithStep_7 : decode cX6_caseWithStep 7 = .ok (.getfield 180, 3) := by decide +kernel
theorem dX6_caseWithStep_10 : decode cX6_caseWithStep 10 = .ok (.iload_n 2, 1) := by decide +kernel
theorem dX6_caseWithStep_11 : decode cX6_caseWithStep 11 = .ok (.invokestatic 84, 3) := by decide +kernel
theorem dX6_caseWithStep_14 : decode cX6_caseWithStep 14 = .ok (.pop, 1) := by decide +kernel
theorem dX6_caseWithStep_15 : decode cX6_caseWithStep 15 = .ok (.aload_n 3, 1) := by decide +kernel
theorem dX6_caseWithStep_16 : decode cX6_caseWithStep 16 = .ok (.areturn, 1) := by decide +kernel
theorem dX6_noteAndDo_0 : decode cX6_noteAndDo 0 = .ok (.aload_n 0, 1) := by decide +kernel
theorem dX6_noteAndDo_1 : decode cX6_noteAndDo 1 = .ok (.getfield 31, 3) := by decide +kernel
theorem dX6_noteAndDo_4 : decode cX6_noteAndDo 4 = .ok (.iload_n 1, 1) := by decide +kernel
theorem dX6_noteAndDo_5 : decode cX6_noteAndDo 5 = .ok (.iload_n 3, 1) := by decide +kernel
theorem dX6_noteAndDo_6 : decode cX6_noteAndDo 6 = .ok (.iload 4, 2) := by decide +kernel
theorem dX6_noteAndDo_8 : decode cX6_noteAndDo 8 = .ok (.iload 5, 2) := by decide +kernel
theorem dX6_noteAndDo_10 : decode cX6_noteAndDo 10 = .ok (.invokevirtual 200, 3) := by decide +kernel
theorem dX6_noteAndDo_13 : decode cX6_noteAndDo 13 = .ok (.aload_n 0, 1) := by decide +kernel
theorem dX6_noteAndDo_14 : decode cX6_noteAndDo 14 = .ok (.aload_n 2, 1) := by decide +kernel
theorem dX6_noteAndDo_15 : decode cX6_noteAndDo 15 = .ok (.iload_n 3, 1) := by decide +kernel
theorem dX6_noteAndDo_16 : decode cX6_noteAndDo 16 = .ok (.iload 4, 2) := by decide +kernel
theorem dX6_noteAndDo_18 : decode cX6_noteAndDo 18 = .ok (.iload 5, 2) := by decide +kernel
theorem dX6_noteAndDo_20 : decode cX6_noteAndDo 20 = .ok (.invokevirtual 206, 3) := by decide +kernel
theorem dX6_noteAndDo_23 : decode cX6_noteAndDo 23 = .ok (.return_, 1) := by decide +kernel
theorem dX6_letHappen_0 : decode cX6_letHappen 0 = .ok (.aload_n 1, 1) := by decide +kernel
theorem dX6_letHappen_1 : decode cX6_letHappen 1 = .ok (.ifnonnull 4, 3) := by decide +kernel
theorem dX6_letHappen_4 : decode cX6_letHappen 4 = .ok (.return_, 1) := by decide +kernel
theorem dX6_letHappen_5 : decode cX6_letHappen 5 = .ok (.iload_n 2, 1) := by decide +kernel
theorem dX6_letHappen_6 : decode cX6_letHappen 6 = .ok (.tableswitch 110 0 6 #[42, 54, 64, 72, 82, 90, 98], 42) := by decide +kernel
theorem dX6_letHappen_48 : decode cX6_letHappen 48 = .ok (.aload_n 1, 1) := by decide +kernel
theorem dX6_letHappen_49 : decode cX6_letHappen 49 = .ok (.aload_n 0, 1) := by decide +kernel
theorem dX6_letHappen_50 : decode cX6_letHappen 50 = .ok (.iload_n 3, 1) := by decide +kernel
theorem dX6_letHappen_51 : decode cX6_letHappen 51 = .ok (.invokevirtual 289, 3) := by decide +kernel
theorem dX6_letHappen_54 : decode cX6_letHappen 54 = .ok (.invokevirtual 301, 3) := by decide +kernel
theorem dX6_letHappen_57 : decode cX6_letHappen 57 = .ok (.goto 63, 3) := by decide +kernel
theorem dX6_letHappen_60 : decode cX6_letHappen 60 = .ok (.aload_n 1, 1) := by decide +kernel
theorem dX6_letHappen_61 : decode cX6_letHappen 61 = .ok (.iload_n 3, 1) := by decide +kernel
theorem dX6_letHappen_62 : decode cX6_letHappen 62 = .ok (.iload 4, 2) := by decide +kernel
theorem dX6_letHappen_64 : decode cX6_letHappen 64 = .ok (.invokevirtual 304, 3) := by decide +kernel
theorem dX6_letHappen_67 : decode cX6_letHappen 67 = .ok (.goto 53, 3) := by decide +kernel
theorem dX6_letHappen_70 : decode cX6_letHappen 70 = .ok (.aload_n 1, 1) := by decide +kernel
theorem dX6_letHappen_71 : decode cX6_letHappen 71 = .ok (.iload_n 3, 1) := by decide +kernel
theorem dX6_letHappen_72 : decode cX6_letHappen 72 = .ok (.putfield 308, 3) := by decide +kernel
theorem dX6_letHappen_75 : decode cX6_letHappen 75 = .ok (.goto 45, 3) := by decide +kernel
theorem dX6_letHappen_78 : decode cX6_letHappen 78 = .ok (.aload_n 1, 1) := by decide +kernel
theorem dX6_letHappen_79 : decode cX6_letHappen 79 = .ok (.iload_n 3, 1) := by decide +kernel
theorem dX6_letHappen_80 : decode cX6_letHappen 80 = .ok (.bipush 99, 2) := by decide +kernel
theorem dX6_letHappen_82 : decode cX6_letHappen 82 = .ok (.invokevirtual 311, 3) := by decide +kernel
theorem dX6_letHappen_85 : decode cX6_letHappen 85 = .ok (.goto 35, 3) := by decide +kernel
theorem dX6_letHappen_88 : decode cX6_letHappen 88 = .ok (.aload_n 1, 1) := by decide +kernel
theorem dX6_letHappen_89 : decode cX6_letHappen 89 = .ok (.iconst 1, 1) := by decide +kernel
theorem dX6_letHappen_90 : decode cX6_letHappen 90 = .ok (.putfield 190, 3) := by decide +kernel
theorem dX6_letHappen_93 : decode cX6_letHappen 93 = .ok (.goto 27, 3) := by decide +kernel
theorem dX6_letHappen_96 : decode cX6_letHappen 96 = .ok (.aload_n 1, 1) := by decide +kernel
theorem dX6_letHappen_97 : decode cX6_letHappen 97 = .ok (.iconst 0, 1) := by decide +kernel
theorem dX6_letHappen_98 : decode cX6_letHappen 98 = .ok (.putfield 190, 3) := by decide +kernel
theorem dX6_letHappen_101 : decode cX6_letHappen 101 = .ok (.goto 19, 3) := by decide +kernel
theorem dX6_letHappen_104 : decode cX6_letHappen 104 = .ok (.aload_n 1, 1) := by decide +kernel
theorem dX6_letHappen_105 : decode cX6_letHappen 105 = .ok (.aload_n 0, 1) := by decide +kernel
theorem dX6_letHappen_106 : decode cX6_letHappen 106 = .ok (.iload_n 3, 1) := by decide +kernel
theorem dX6_letHappen_107 : decode cX6_letHappen 107 = .ok (.invokevirtual 289, 3) := by decide +kernel
theorem dX6_letHappen_110 : decode cX6_letHappen 110 = .ok (.invokevirtual 315, 3) := by decide +kernel
theorem dX6_letHappen_113 : decode cX6_letHappen 113 = .ok (.goto 7, 3) := by decide +kernel
theorem dX6_letHappen_116 : decode cX6_letHappen 116 = .ok (.aload_n 1, 1) := by decide +kernel
theorem dX6_letHappen_117 : decode cX6_letHappen 117 = .ok (.invokevirtual 318, 3) := by decide +kernel
theorem dX6_letHappen_120 : decode cX6_letHappen 120 = .ok (.aload_n 1, 1) := by decide +kernel
theorem dX6_letHappen_121 : decode cX6_letHappen 121 = .ok (.dup, 1) := by decide +kernel
theorem dX6_letHappen_122 : decode cX6_letHappen 122 = .ok (.getfield 265, 3) := by decide +kernel
theorem dX6_letHappen_125 : decode cX6_letHappen 125 = .ok (.iconst 1, 1) := by decide +kernel
theorem dX6_letHappen_126 : decode cX6_letHappen 126 = .ok (.iadd, 1) := by decide +kernel
theorem dX6_letHappen_127 : decode cX6_letHappen 127 = .ok (.putfield 265, 3) := by decide +kernel
theorem dX6_letHappen_130 : decode cX6_letHappen 130 = .ok (.aload_n 1, 1) := by decide +kernel
theorem dX6_letHappen_131 : decode cX6_letHappen 131 = .ok (.invokevirtual 321, 3) := by decide +kernel
theorem dX6_letHappen_134 : decode cX6_letHappen 134 = .ok (.aload_n 1, 1) := by decide +kernel
theorem dX6_letHappen_135 : decode cX6_letHappen 135 = .ok (.iconst (-1), 1) := by decide +kernel
theorem dX6_letHappen_136 : decode cX6_letHappen 136 = .ok (.putfield 308, 3) := by decide +kernel
theorem dX6_letHappen_139 : decode cX6_letHappen 139 = .ok (.return_, 1) := by decide +kernel
theorem dX6_replay_0 : decode cX6_replay 0 = .ok (.iconst 0, 1) := by decide +kernel
theorem dX6_replay_1 : decode cX6_replay 1 = .ok (.istore_n 2, 1) := by decide +kernel
theorem dX6_replay_2 : decode cX6_replay 2 = .ok (.iconst 0, 1) := by decide +kernel
theorem dX6_replay_3 : decode cX6_replay 3 = .ok (.istore_n 3, 1) := by decide +kernel
theorem dX6_replay_4 : decode cX6_replay 4 = .ok (.iload_n 3, 1) := by decide +kernel
theorem dX6_replay_5 : decode cX6_replay 5 = .ok (.aload_n 0, 1) := by decide +kernel
theorem dX6_replay_6 : decode cX6_replay 6 = .ok (.getfield 31, 3) := by decide +kernel
theorem dX6_replay_9 : decode cX6_replay 9 = .ok (.getfield 324, 3) := by decide +kernel
theorem dX6_replay_12 : decode cX6_replay 12 = .ok (.if_icmp .ge 136, 3) := by decide +kernel
theorem dX6_replay_15 : decode cX6_replay 15 = .ok (.iload_n 3, 1) := by decide +kernel
theorem dX6_replay_16 : decode cX6_replay 16 = .ok (.sipush 512, 3) := by decide +kernel
theorem dX6_replay_19 : decode cX6_replay 19 = .ok (.if_icmp .ge 129, 3) := by decide +kernel
theorem dX6_replay_22 : decode cX6_replay 22 = .ok (.aload_n 0, 1) := by decide +kernel
theorem dX6_replay_23 : decode cX6_replay 23 = .ok (.getfield 31, 3) := by decide +kernel
theorem dX6_replay_26 : decode cX6_replay 26 = .ok (.getfield 325, 3) := by decide +kernel
theorem dX6_replay_29 : decode cX6_replay 29 = .ok (.iload_n 3, 1) := by decide +kernel
theorem dX6_replay_30 : decode cX6_replay 30 = .ok (.iaload, 1) := by decide +kernel
theorem dX6_replay_31 : decode cX6_replay 31 = .ok (.istore 4, 2) := by decide +kernel
theorem dX6_replay_33 : decode cX6_replay 33 = .ok (.aload_n 0, 1) := by decide +kernel
theorem dX6_replay_34 : decode cX6_replay 34 = .ok (.getfield 31, 3) := by decide +kernel
theorem dX6_replay_37 : decode cX6_replay 37 = .ok (.getfield 329, 3) := by decide +kernel
theorem dX6_replay_40 : decode cX6_replay 40 = .ok (.iload_n 3, 1) := by decide +kernel
theorem dX6_replay_41 : decode cX6_replay 41 = .ok (.iaload, 1) := by decide +kernel
theorem dX6_replay_42 : decode cX6_replay 42 = .ok (.istore 5, 2) := by decide +kernel
theorem dX6_replay_44 : decode cX6_replay 44 = .ok (.iload 4, 2) := by decide +kernel
theorem dX6_replay_46 : decode cX6_replay 46 = .ok (.iload_n 1, 1) := by decide +kernel
theorem dX6_replay_47 : decode cX6_replay 47 = .ok (.if_icmp .ne 10, 3) := by decide +kernel
theorem dX6_replay_50 : decode cX6_replay 50 = .ok (.iload 5, 2) := by decide +kernel
theorem dX6_replay_52 : decode cX6_replay 52 = .ok (.ifCond .ne 5, 3) := by decide +kernel
theorem dX6_replay_55 : decode cX6_replay 55 = .ok (.iconst 1, 1) := by decide +kernel
theorem dX6_replay_56 : decode cX6_replay 56 = .ok (.istore_n 2, 1) := by decide +kernel
theorem dX6_replay_57 : decode cX6_replay 57 = .ok (.iload_n 2, 1) := by decide +kernel
theorem dX6_replay_58 : decode cX6_replay 58 = .ok (.ifCond .eq 84, 3) := by decide +kernel
theorem dX6_replay_61 : decode cX6_replay 61 = .ok (.iload 4, 2) := by decide +kernel
theorem dX6_replay_63 : decode cX6_replay 63 = .ok (.iload_n 1, 1) := by decide +kernel
theorem dX6_replay_64 : decode cX6_replay 64 = .ok (.if_icmp .eq 12, 3) := by decide +kernel
theorem dX6_replay_67 : decode cX6_replay 67 = .ok (.iload 4, 2) := by decide +kernel
theorem dX6_replay_69 : decode cX6_replay 69 = .ok (.iconst (-1), 1) := by decide +kernel
theorem dX6_replay_70 : decode cX6_replay 70 = .ok (.if_icmp .eq 6, 3) := by decide +kernel
theorem dX6_replay_73 : decode cX6_replay 73 = .ok (.goto 69, 3) := by decide +kernel
theorem dX6_replay_76 : decode cX6_replay 76 = .ok (.iload 5, 2) := by decide +kernel
theorem dX6_replay_78 : decode cX6_replay 78 = .ok (.bipush 7, 2) := by decide +kernel
theorem dX6_replay_80 : decode cX6_replay 80 = .ok (.if_icmp .ne 15, 3) := by decide +kernel
theorem dX6_replay_83 : decode cX6_replay 83 = .ok (.aload_n 0, 1) := by decide +kernel
theorem dX6_replay_84 : decode cX6_replay 84 = .ok (.getfield 31, 3) := by decide +kernel
theorem dX6_replay_87 : decode cX6_replay 87 = .ok (.getfield 332, 3) := by decide +kernel
theorem dX6_replay_90 : decode cX6_replay 90 = .ok (.iload_n 3, 1) := by decide +kernel
theorem dX6_replay_91 : decode cX6_replay 91 = .ok (.iaload, 1) := by decide +kernel
theorem dX6_replay_92 : decode cX6_replay 92 = .ok (.goto 4, 3) := by decide +kernel
theorem dX6_replay_95 : decode cX6_replay 95 = .ok (.iconst 1, 1) := by decide +kernel
theorem dX6_replay_96 : decode cX6_replay 96 = .ok (.istore 6, 2) := by decide +kernel
theorem dX6_replay_98 : decode cX6_replay 98 = .ok (.iconst 0, 1) := by decide +kernel
theorem dX6_replay_99 : decode cX6_replay 99 = .ok (.istore 7, 2) := by decide +kernel
theorem dX6_replay_101 : decode cX6_replay 101 = .ok (.iload 7, 2) := by decide +kernel
theorem dX6_replay_103 : decode cX6_replay 103 = .ok (.iload 6, 2) := by decide +kernel
theorem dX6_replay_105 : decode cX6_replay 105 = .ok (.if_icmp .ge 37, 3) := by decide +kernel
theorem dX6_replay_108 : decode cX6_replay 108 = .ok (.aload_n 0, 1) := by decide +kernel
theorem dX6_replay_109 : decode cX6_replay 109 = .ok (.aload_n 0, 1) := by decide +kernel
theorem dX6_replay_110 : decode cX6_replay 110 = .ok (.getfield 41, 3) := by decide +kernel
theorem dX6_replay_113 : decode cX6_replay 113 = .ok (.iload 5, 2) := by decide +kernel
theorem dX6_replay_115 : decode cX6_replay 115 = .ok (.aload_n 0, 1) := by decide +kernel
theorem dX6_replay_116 : decode cX6_replay 116 = .ok (.getfield 31, 3) := by decide +kernel
theorem dX6_replay_119 : decode cX6_replay 119 = .ok (.getfield 332, 3) := by decide +kernel
theorem dX6_replay_122 : decode cX6_replay 122 = .ok (.iload_n 3, 1) := by decide +kernel
theorem dX6_replay_123 : decode cX6_replay 123 = .ok (.iaload, 1) := by decide +kernel
theorem dX6_replay_124 : decode cX6_replay 124 = .ok (.aload_n 0, 1) := by decide +kernel
theorem dX6_replay_125 : decode cX6_replay 125 = .ok (.getfield 31, 3) := by decide +kernel
theorem dX6_replay_128 : decode cX6_replay 128 = .ok (.getfield 335, 3) := by decide +kernel
theorem dX6_replay_131 : decode cX6_replay 131 = .ok (.iload_n 3, 1) := by decide +kernel
theorem dX6_replay_132 : decode cX6_replay 132 = .ok (.iaload, 1) := by decide +kernel
theorem dX6_replay_133 : decode cX6_replay 133 = .ok (.invokevirtual 206, 3) := by decide +kernel
theorem dX6_replay_136 : decode cX6_replay 136 = .ok (.iinc 7 1, 3) := by decide +kernel
theorem dX6_replay_139 : decode cX6_replay 139 = .ok (.goto (-38), 3) := by decide +kernel
theorem dX6_replay_142 : decode cX6_replay 142 = .ok (.iinc 3 1, 3) := by decide +kernel
theorem dX6_replay_145 : decode cX6_replay 145 = .ok (.goto (-141), 3) := by decide +kernel
theorem dX6_replay_148 : decode cX6_replay 148 = .ok (.return_, 1) := by decide +kernel
theorem dX6_lateTasksOfAll_0 : decode cX6_lateTasksOfAll 0 = .ok (.iconst 0, 1) := by decide +kernel
theorem dX6_lateTasksOfAll_1 : decode cX6_lateTasksOfAll 1 = .ok (.istore_n 1, 1) := by decide +kernel
theorem dX6_lateTasksOfAll_2 : decode cX6_lateTasksOfAll 2 = .ok (.iconst 0, 1) := by decide +kernel
theorem dX6_lateTasksOfAll_3 : decode cX6_lateTasksOfAll 3 = .ok (.istore_n 2, 1) := by decide +kernel
theorem dX6_lateTasksOfAll_4 : decode cX6_lateTasksOfAll 4 = .ok (.iload_n 2, 1) := by decide +kernel
theorem dX6_lateTasksOfAll_5 : decode cX6_lateTasksOfAll 5 = .ok (.aload_n 0, 1) := by decide +kernel
theorem dX6_lateTasksOfAll_6 : decode cX6_lateTasksOfAll 6 = .ok (.getfield 25, 3) := by decide +kernel
theorem dX6_lateTasksOfAll_9 : decode cX6_lateTasksOfAll 9 = .ok (.if_icmp .ge 26, 3) := by decide +kernel
theorem dX6_lateTasksOfAll_12 : decode cX6_lateTasksOfAll 12 = .ok (.aload_n 0, 1) := by decide +kernel
theorem dX6_lateTasksOfAll_13 : decode cX6_lateTasksOfAll 13 = .ok (.iload_n 2, 1) := by decide +kernel
theorem dX6_lateTasksOfAll_14 : decode cX6_lateTasksOfAll 14 = .ok (.invokevirtual 203, 3) := by decide +kernel
theorem dX6_lateTasksOfAll_17 : decode cX6_lateTasksOfAll 17 = .ok (.astore_n 3, 1) := by decide +kernel
theorem dX6_lateTasksOfAll_18 : decode cX6_lateTasksOfAll 18 = .ok (.aload_n 3, 1) := by decide +kernel
theorem dX6_lateTasksOfAll_19 : decode cX6_lateTasksOfAll 19 = .ok (.ifnull 10, 3) := by decide +kernel
theorem dX6_lateTasksOfAll_22 : decode cX6_lateTasksOfAll 22 = .ok (.iload_n 1, 1) := by decide +kernel
theorem dX6_lateTasksOfAll_23 : decode cX6_lateTasksOfAll 23 = .ok (.aload_n 3, 1) := by decide +kernel
theorem dX6_lateTasksOfAll_24 : decode cX6_lateTasksOfAll 24 = .ok (.invokevirtual 338, 3) := by decide +kernel
theorem dX6_lateTasksOfAll_27 : decode cX6_lateTasksOfAll 27 = .ok (.iadd, 1) := by decide +kernel
theorem dX6_lateTasksOfAll_28 : decode cX6_lateTasksOfAll 28 = .ok (.istore_n 1, 1) := by decide +kernel
theorem dX6_lateTasksOfAll_29 : decode cX6_lateTasksOfAll 29 = .ok (.iinc 2 1, 3) := by decide +kernel
theorem dX6_lateTasksOfAll_32 : decode cX6_lateTasksOfAll 32 = .ok (.goto (-28), 3) := by decide +kernel
theorem dX6_lateTasksOfAll_35 : decode cX6_lateTasksOfAll 35 = .ok (.iload_n 1, 1) := by decide +kernel
theorem dX6_lateTasksOfAll_36 : decode cX6_lateTasksOfAll 36 = .ok (.ireturn, 1) := by decide +kernel
