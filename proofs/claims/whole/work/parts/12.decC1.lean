theorem d_G_faultIn_0 : decode b_G_faultIn 0 = .ok (.aload_n 0, 1) := by decide +kernel
theorem d_G_faultIn_1 : decode b_G_faultIn 1 = .ok (.invokevirtual 15, 3) := by decide +kernel
theorem d_G_faultIn_4 : decode b_G_faultIn 4 = .ok (.iconst 0, 1) := by decide +kernel
theorem d_G_faultIn_5 : decode b_G_faultIn 5 = .ok (.istore_n 2, 1) := by decide +kernel
theorem d_G_faultIn_6 : decode b_G_faultIn 6 = .ok (.iload_n 2, 1) := by decide +kernel
theorem d_G_faultIn_7 : decode b_G_faultIn 7 = .ok (.aload_n 1, 1) := by decide +kernel
theorem d_G_faultIn_8 : decode b_G_faultIn 8 = .ok (.invokevirtual 18, 3) := by decide +kernel
theorem d_G_faultIn_11 : decode b_G_faultIn 11 = .ok (.if_icmp .ge 23, 3) := by decide +kernel
theorem d_G_faultIn_14 : decode b_G_faultIn 14 = .ok (.aload_n 0, 1) := by decide +kernel
theorem d_G_faultIn_15 : decode b_G_faultIn 15 = .ok (.aload_n 1, 1) := by decide +kernel
theorem d_G_faultIn_16 : decode b_G_faultIn 16 = .ok (.iload_n 2, 1) := by decide +kernel
theorem d_G_faultIn_17 : decode b_G_faultIn 17 = .ok (.invokevirtual 24, 3) := by decide +kernel
theorem d_G_faultIn_20 : decode b_G_faultIn 20 = .ok (.invokevirtual 28, 3) := by decide +kernel
theorem d_G_faultIn_23 : decode b_G_faultIn 23 = .ok (.ifCond .ne 5, 3) := by decide +kernel
theorem d_G_faultIn_26 : decode b_G_faultIn 26 = .ok (.iload_n 2, 1) := by decide +kernel
theorem d_G_faultIn_27 : decode b_G_faultIn 27 = .ok (.ireturn, 1) := by decide +kernel
theorem d_G_faultIn_28 : decode b_G_faultIn 28 = .ok (.iinc 2 1, 3) := by decide +kernel
theorem d_G_faultIn_31 : decode b_G_faultIn 31 = .ok (.goto (-25), 3) := by decide +kernel
theorem d_G_faultIn_34 : decode b_G_faultIn 34 = .ok (.aload_n 0, 1) := by decide +kernel
theorem d_G_faultIn_35 : decode b_G_faultIn 35 = .ok (.invokevirtual 32, 3) := by decide +kernel
theorem d_G_faultIn_38 : decode b_G_faultIn 38 = .ok (.ifCond .eq 8, 3) := by decide +kernel
theorem d_G_faultIn_41 : decode b_G_faultIn 41 = .ok (.bipush (-2), 2) := by decide +kernel
theorem d_G_faultIn_43 : decode b_G_faultIn 43 = .ok (.goto 7, 3) := by decide +kernel
theorem d_G_faultIn_46 : decode b_G_faultIn 46 = .ok (.aload_n 1, 1) := by decide +kernel
theorem d_G_faultIn_47 : decode b_G_faultIn 47 = .ok (.invokevirtual 18, 3) := by decide +kernel
theorem d_G_faultIn_50 : decode b_G_faultIn 50 = .ok (.ireturn, 1) := by decide +kernel
theorem d_G_firstRelation_0 : decode b_G_firstRelation 0 = .ok (.aload_n 0, 1) := by decide +kernel
theorem d_G_firstRelation_1 : decode b_G_firstRelation 1 = .ok (.getfield 36, 3) := by decide +kernel
theorem d_G_firstRelation_4 : decode b_G_firstRelation 4 = .ok (.ireturn, 1) := by decide +kernel
theorem d_G_lastRelation_0 : decode b_G_lastRelation 0 = .ok (.aload_n 0, 1) := by decide +kernel
theorem d_G_lastRelation_1 : decode b_G_lastRelation 1 = .ok (.getfield 40, 3) := by decide +kernel
theorem d_G_lastRelation_4 : decode b_G_lastRelation 4 = .ok (.ireturn, 1) := by decide +kernel
theorem d_G_expressionStart_0 : decode b_G_expressionStart 0 = .ok (.aload_n 0, 1) := by decide +kernel
theorem d_G_expressionStart_1 : decode b_G_expressionStart 1 = .ok (.getfield 40, 3) := by decide +kernel
theorem d_G_expressionStart_4 : decode b_G_expressionStart 4 = .ok (.aload_n 0, 1) := by decide +kernel
theorem d_G_expressionStart_5 : decode b_G_expressionStart 5 = .ok (.getfield 36, 3) := by decide +kernel
theorem d_G_expressionStart_8 : decode b_G_expressionStart 8 = .ok (.isub, 1) := by decide +kernel
theorem d_G_expressionStart_9 : decode b_G_expressionStart 9 = .ok (.iconst 1, 1) := by decide +kernel
theorem d_G_expressionStart_10 : decode b_G_expressionStart 10 = .ok (.iadd, 1) := by decide +kernel
theorem d_G_expressionStart_11 : decode b_G_expressionStart 11 = .ok (.istore_n 1, 1) := by decide +kernel
theorem d_G_expressionStart_12 : decode b_G_expressionStart 12 = .ok (.iload_n 1, 1) := by decide +kernel
theorem d_G_expressionStart_13 : decode b_G_expressionStart 13 = .ok (.iconst 1, 1) := by decide +kernel
theorem d_G_expressionStart_14 : decode b_G_expressionStart 14 = .ok (.iadd, 1) := by decide +kernel
theorem d_G_expressionStart_15 : decode b_G_expressionStart 15 = .ok (.ireturn, 1) := by decide +kernel
theorem d_G_conditions_0 : decode b_G_conditions 0 = .ok (.aload_n 0, 1) := by decide +kernel
theorem d_G_conditions_1 : decode b_G_conditions 1 = .ok (.getfield 43, 3) := by decide +kernel
theorem d_G_conditions_4 : decode b_G_conditions 4 = .ok (.ireturn, 1) := by decide +kernel
theorem d_G_allowedIn_0 : decode b_G_allowedIn 0 = .ok (.aload_n 0, 1) := by decide +kernel
theorem d_G_allowedIn_1 : decode b_G_allowedIn 1 = .ok (.getfield 9, 3) := by decide +kernel
theorem d_G_allowedIn_4 : decode b_G_allowedIn 4 = .ok (.iload_n 1, 1) := by decide +kernel
theorem d_G_allowedIn_5 : decode b_G_allowedIn 5 = .ok (.iaload, 1) := by decide +kernel
theorem d_G_allowedIn_6 : decode b_G_allowedIn 6 = .ok (.ireturn, 1) := by decide +kernel
theorem d_G_groupColumn_0 : decode b_G_groupColumn 0 = .ok (.aload_n 0, 1) := by decide +kernel
theorem d_G_groupColumn_1 : decode b_G_groupColumn 1 = .ok (.getfield 46, 3) := by decide +kernel
theorem d_G_groupColumn_4 : decode b_G_groupColumn 4 = .ok (.ireturn, 1) := by decide +kernel
theorem d_G_restart_0 : decode b_G_restart 0 = .ok (.aload_n 0, 1) := by decide +kernel
theorem d_G_restart_1 : decode b_G_restart 1 = .ok (.iconst 0, 1) := by decide +kernel
theorem d_G_restart_2 : decode b_G_restart 2 = .ok (.putfield 49, 3) := by decide +kernel
theorem d_G_restart_5 : decode b_G_restart 5 = .ok (.aload_n 0, 1) := by decide +kernel
theorem d_G_restart_6 : decode b_G_restart 6 = .ok (.iconst 0, 1) := by decide +kernel
theorem d_G_restart_7 : decode b_G_restart 7 = .ok (.putfield 36, 3) := by decide +kernel
theorem d_G_restart_10 : decode b_G_restart 10 = .ok (.aload_n 0, 1) := by decide +kernel
theorem d_G_restart_11 : decode b_G_restart 11 = .ok (.iconst 0, 1) := by decide +kernel
theorem d_G_restart_12 : decode b_G_restart 12 = .ok (.putfield 40, 3) := by decide +kernel
theorem d_G_restart_15 : decode b_G_restart 15 = .ok (.aload_n 0, 1) := by decide +kernel
theorem d_G_restart_16 : decode b_G_restart 16 = .ok (.iconst 0, 1) := by decide +kernel
theorem d_G_restart_17 : decode b_G_restart 17 = .ok (.putfield 52, 3) := by decide +kernel
theorem d_G_restart_20 : decode b_G_restart 20 = .ok (.aload_n 0, 1) := by decide +kernel
theorem d_G_restart_21 : decode b_G_restart 21 = .ok (.iconst 0, 1) := by decide +kernel
theorem d_G_restart_22 : decode b_G_restart 22 = .ok (.putfield 55, 3) := by decide +kernel
theorem d_G_restart_25 : decode b_G_restart 25 = .ok (.aload_n 0, 1) := by decide +kernel
theorem d_G_restart_26 : decode b_G_restart 26 = .ok (.iconst 0, 1) := by decide +kernel
theorem d_G_restart_27 : decode b_G_restart 27 = .ok (.putfield 43, 3) := by decide +kernel
theorem d_G_restart_30 : decode b_G_restart 30 = .ok (.aload_n 0, 1) := by decide +kernel
theorem d_G_restart_31 : decode b_G_restart 31 = .ok (.getfield 9, 3) := by decide +kernel
theorem d_G_restart_34 : decode b_G_restart 34 = .ok (.bipush 63, 2) := by decide +kernel
theorem d_G_restart_36 : decode b_G_restart 36 = .ok (.invokestatic 58, 3) := by decide +kernel
theorem d_G_restart_39 : decode b_G_restart 39 = .ok (.aload_n 0, 1) := by decide +kernel
theorem d_G_restart_40 : decode b_G_restart 40 = .ok (.bipush (-2), 2) := by decide +kernel
theorem d_G_restart_42 : decode b_G_restart 42 = .ok (.putfield 46, 3) := by decide +kernel
theorem d_G_restart_45 : decode b_G_restart 45 = .ok (.return_, 1) := by decide +kernel
theorem d_G_isWhole_0 : decode b_G_isWhole 0 = .ok (.aload_n 0, 1) := by decide +kernel
theorem d_G_isWhole_1 : decode b_G_isWhole 1 = .ok (.getfield 49, 3) := by decide +kernel
theorem d_G_isWhole_4 : decode b_G_isWhole 4 = .ok (.iconst 3, 1) := by decide +kernel
theorem d_G_isWhole_5 : decode b_G_isWhole 5 = .ok (.if_icmp .ne 10, 3) := by decide +kernel
theorem d_G_isWhole_8 : decode b_G_isWhole 8 = .ok (.aload_n 0, 1) := by decide +kernel
theorem d_G_isWhole_9 : decode b_G_isWhole 9 = .ok (.getfield 52, 3) := by decide +kernel
theorem d_G_isWhole_12 : decode b_G_isWhole 12 = .ok (.ifCond .eq 21, 3) := by decide +kernel
theorem d_G_isWhole_15 : decode b_G_isWhole 15 = .ok (.aload_n 0, 1) := by decide +kernel
theorem d_G_isWhole_16 : decode b_G_isWhole 16 = .ok (.getfield 49, 3) := by decide +kernel
theorem d_G_isWhole_19 : decode b_G_isWhole 19 = .ok (.bipush 7, 2) := by decide +kernel
theorem d_G_isWhole_21 : decode b_G_isWhole 21 = .ok (.if_icmp .eq 12, 3) := by decide +kernel
theorem d_G_isWhole_24 : decode b_G_isWhole 24 = .ok (.aload_n 0, 1) := by decide +kernel
theorem d_G_isWhole_25 : decode b_G_isWhole 25 = .ok (.getfield 49, 3) := by decide +kernel
theorem d_G_isWhole_28 : decode b_G_isWhole 28 = .ok (.bipush 9, 2) := by decide +kernel
theorem d_G_isWhole_30 : decode b_G_isWhole 30 = .ok (.if_icmp .ne 7, 3) := by decide +kernel
theorem d_G_isWhole_33 : decode b_G_isWhole 33 = .ok (.iconst 1, 1) := by decide +kernel
theorem d_G_isWhole_34 : decode b_G_isWhole 34 = .ok (.goto 4, 3) := by decide +kernel
theorem d_G_isWhole_37 : decode b_G_isWhole 37 = .ok (.iconst 0, 1) := by decide +kernel
theorem d_G_isWhole_38 : decode b_G_isWhole 38 = .ok (.ireturn, 1) := by decide +kernel
theorem d_G_take_0 : decode b_G_take 0 = .ok (.aload_n 0, 1) := by decide +kernel
theorem d_G_take_1 : decode b_G_take 1 = .ok (.getfield 49, 3) := by decide +kernel
theorem d_G_take_4 : decode b_G_take 4 = .ok (.tableswitch 106 0 8 #[52, 58, 64, 70, 76, 82, 88, 94, 100], 52) := by decide +kernel
theorem d_G_take_56 : decode b_G_take 56 = .ok (.aload_n 0, 1) := by decide +kernel
theorem d_G_take_57 : decode b_G_take 57 = .ok (.iload_n 1, 1) := by decide +kernel
theorem d_G_take_58 : decode b_G_take 58 = .ok (.invokevirtual 64, 3) := by decide +kernel
theorem d_G_take_61 : decode b_G_take 61 = .ok (.ireturn, 1) := by decide +kernel
theorem d_G_take_62 : decode b_G_take 62 = .ok (.aload_n 0, 1) := by decide +kernel
theorem d_G_take_63 : decode b_G_take 63 = .ok (.iload_n 1, 1) := by decide +kernel
theorem d_G_take_64 : decode b_G_take 64 = .ok (.invokevirtual 67, 3) := by decide +kernel
theorem d_G_take_67 : decode b_G_take 67 = .ok (.ireturn, 1) := by decide +kernel
theorem d_G_take_68 : decode b_G_take 68 = .ok (.aload_n 0, 1) := by decide +kernel
theorem d_G_take_69 : decode b_G_take 69 = .ok (.iload_n 1, 1) := by decide +kernel
theorem d_G_take_70 : decode b_G_take 70 = .ok (.invokevirtual 70, 3) := by decide +kernel
theorem d_G_take_73 : decode b_G_take 73 = .ok (.ireturn, 1) := by decide +kernel
theorem d_G_take_74 : decode b_G_take 74 = .ok (.aload_n 0, 1) := by decide +kernel
theorem d_G_take_75 : decode b_G_take 75 = .ok (.iload_n 1, 1) := by decide +kernel
theorem d_G_take_76 : decode b_G_take 76 = .ok (.invokevirtual 73, 3) := by decide +kernel
theorem d_G_take_79 : decode b_G_take 79 = .ok (.ireturn, 1) := by decide +kernel
theorem d_G_take_80 : decode b_G_take 80 = .ok (.aload_n 0, 1) := by decide +kernel
theorem d_G_take_81 : decode b_G_take 81 = .ok (.iload_n 1, 1) := by decide +kernel
theorem d_G_take_82 : decode b_G_take 82 = .ok (.invokevirtual 76, 3) := by decide +kernel
theorem d_G_take_85 : decode b_G_take 85 = .ok (.ireturn, 1) := by decide +kernel
theorem d_G_take_86 : decode b_G_take 86 = .ok (.aload_n 0, 1) := by decide +kernel
theorem d_G_take_87 : decode b_G_take 87 = .ok (.iload_n 1, 1) := by decide +kernel
theorem d_G_take_88 : decode b_G_take 88 = .ok (.invokevirtual 79, 3) := by decide +kernel
theorem d_G_take_91 : decode b_G_take 91 = .ok (.ireturn, 1) := by decide +kernel
theorem d_G_take_92 : decode b_G_take 92 = .ok (.aload_n 0, 1) := by decide +kernel
theorem d_G_take_93 : decode b_G_take 93 = .ok (.iload_n 1, 1) := by decide +kernel
theorem d_G_take_94 : decode b_G_take 94 = .ok (.invokevirtual 82, 3) := by decide +kernel
theorem d_G_take_97 : decode b_G_take 97 = .ok (.ireturn, 1) := by decide +kernel
theorem d_G_take_98 : decode b_G_take 98 = .ok (.aload_n 0, 1) := by decide +kernel
theorem d_G_take_99 : decode b_G_take 99 = .ok (.iload_n 1, 1) := by decide +kernel
theorem d_G_take_100 : decode b_G_take 100 = .ok (.invokevirtual 85, 3) := by decide +kernel
theorem d_G_take_103 : decode b_G_take 103 = .ok (.ireturn, 1) := by decide +kernel
theorem d_G_take_104 : decode b_G_take 104 = .ok (.aload_n 0, 1) := by decide +kernel
theorem d_G_take_105 : decode b_G_take 105 = .ok (.iload_n 1, 1) := by decide +kernel
theorem d_G_take_106 : decode b_G_take 106 = .ok (.invokevirtual 88, 3) := by decide +kernel
theorem d_G_take_109 : decode b_G_take 109 = .ok (.ireturn, 1) := by decide +kernel
theorem d_G_take_110 : decode b_G_take 110 = .ok (.iconst 0, 1) := by decide +kernel
theorem d_G_take_111 : decode b_G_take 111 = .ok (.ireturn, 1) := by decide +kernel
theorem d_G_takeChainStart_0 : decode b_G_takeChainStart 0 = .ok (.iload_n 1, 1) := by decide +kernel
theorem d_G_takeChainStart_1 : decode b_G_takeChainStart 1 = .ok (.invokestatic 91, 3) := by decide +kernel
theorem d_G_takeChainStart_4 : decode b_G_takeChainStart 4 = .ok (.istore_n 2, 1) := by decide +kernel
theorem d_G_takeChainStart_5 : decode b_G_takeChainStart 5 = .ok (.iload_n 2, 1) := by decide +kernel
theorem d_G_takeChainStart_6 : decode b_G_takeChainStart 6 = .ok (.ifCond .ge 5, 3) := by decide +kernel
theorem d_G_takeChainStart_9 : decode b_G_takeChainStart 9 = .ok (.iconst 0, 1) := by decide +kernel
theorem d_G_takeChainStart_10 : decode b_G_takeChainStart 10 = .ok (.ireturn, 1) := by decide +kernel
theorem d_G_takeChainStart_11 : decode b_G_takeChainStart 11 = .ok (.aload_n 0, 1) := by decide +kernel
theorem d_G_takeChainStart_12 : decode b_G_takeChainStart 12 = .ok (.iload_n 2, 1) := by decide +kernel
theorem d_G_takeChainStart_13 : decode b_G_takeChainStart 13 = .ok (.putfield 36, 3) := by decide +kernel
theorem d_G_takeChainStart_16 : decode b_G_takeChainStart 16 = .ok (.aload_n 0, 1) := by decide +kernel
theorem d_G_takeChainStart_17 : decode b_G_takeChainStart 17 = .ok (.iload_n 2, 1) := by decide +kernel
theorem d_G_takeChainStart_18 : decode b_G_takeChainStart 18 = .ok (.putfield 40, 3) := by decide +kernel
theorem d_G_takeChainStart_21 : decode b_G_takeChainStart 21 = .ok (.aload_n 0, 1) := by decide +kernel
theorem d_G_takeChainStart_22 : decode b_G_takeChainStart 22 = .ok (.iconst 1, 1) := by decide +kernel
theorem d_G_takeChainStart_23 : decode b_G_takeChainStart 23 = .ok (.putfield 49, 3) := by decide +kernel
theorem d_G_takeChainStart_26 : decode b_G_takeChainStart 26 = .ok (.iconst 1, 1) := by decide +kernel
theorem d_G_takeChainStart_27 : decode b_G_takeChainStart 27 = .ok (.ireturn, 1) := by decide +kernel
theorem d_G_takeChainRest_0 : decode b_G_takeChainRest 0 = .ok (.iload_n 1, 1) := by decide +kernel
theorem d_G_takeChainRest_1 : decode b_G_takeChainRest 1 = .ok (.bipush 58, 2) := by decide +kernel
theorem d_G_takeChainRest_3 : decode b_G_takeChainRest 3 = .ok (.if_icmp .ne 10, 3) := by decide +kernel
theorem d_G_takeChainRest_6 : decode b_G_takeChainRest 6 = .ok (.aload_n 0, 1) := by decide +kernel
theorem d_G_takeChainRest_7 : decode b_G_takeChainRest 7 = .ok (.iconst 2, 1) := by decide +kernel
theorem d_G_takeChainRest_8 : decode b_G_takeChainRest 8 = .ok (.putfield 49, 3) := by decide +kernel
theorem d_G_takeChainRest_11 : decode b_G_takeChainRest 11 = .ok (.iconst 1, 1) := by decide +kernel
theorem d_G_takeChainRest_12 : decode b_G_takeChainRest 12 = .ok (.ireturn, 1) := by decide +kernel
theorem d_G_takeChainRest_13 : decode b_G_takeChainRest 13 = .ok (.iload_n 1, 1) := by decide +kernel
theorem d_G_takeChainRest_14 : decode b_G_takeChainRest 14 = .ok (.invokestatic 91, 3) := by decide +kernel
theorem d_G_takeChainRest_17 : decode b_G_takeChainRest 17 = .ok (.aload_n 0, 1) := by decide +kernel
theorem d_G_takeChainRest_18 : decode b_G_takeChainRest 18 = .ok (.getfield 40, 3) := by decide +kernel
theorem d_G_takeChainRest_21 : decode b_G_takeChainRest 21 = .ok (.iconst 1, 1) := by decide +kernel
theorem d_G_takeChainRest_22 : decode b_G_takeChainRest 22 = .ok (.iadd, 1) := by decide +kernel
theorem d_G_takeChainRest_23 : decode b_G_takeChainRest 23 = .ok (.if_icmp .eq 5, 3) := by decide +kernel
theorem d_G_takeChainRest_26 : decode b_G_takeChainRest 26 = .ok (.iconst 0, 1) := by decide +kernel
theorem d_G_takeChainRest_27 : decode b_G_takeChainRest 27 = .ok (.ireturn, 1) := by decide +kernel
theorem d_G_takeChainRest_28 : decode b_G_takeChainRest 28 = .ok (.aload_n 0, 1) := by decide +kernel
theorem d_G_takeChainRest_29 : decode b_G_takeChainRest 29 = .ok (.dup, 1) := by decide +kernel
theorem d_G_takeChainRest_30 : decode b_G_takeChainRest 30 = .ok (.getfield 40, 3) := by decide +kernel
theorem d_G_takeChainRest_33 : decode b_G_takeChainRest 33 = .ok (.iconst 1, 1) := by decide +kernel
theorem d_G_takeChainRest_34 : decode b_G_takeChainRest 34 = .ok (.iadd, 1) := by decide +kernel
theorem d_G_takeChainRest_35 : decode b_G_takeChainRest 35 = .ok (.putfield 40, 3) := by decide +kernel
theorem d_G_takeChainRest_38 : decode b_G_takeChainRest 38 = .ok (.iconst 1, 1) := by decide +kernel
theorem d_G_takeChainRest_39 : decode b_G_takeChainRest 39 = .ok (.ireturn, 1) := by decide +kernel
theorem d_G_takeFactor_0 : decode b_G_takeFactor 0 = .ok (.iload_n 1, 1) := by decide +kernel
theorem d_G_takeFactor_1 : decode b_G_takeFactor 1 = .ok (.bipush 40, 2) := by decide +kernel
theorem d_G_takeFactor_3 : decode b_G_takeFactor 3 = .ok (.if_icmp .eq 9, 3) := by decide +kernel
theorem d_G_takeFactor_6 : decode b_G_takeFactor 6 = .ok (.iload_n 1, 1) := by decide +kernel
theorem d_G_takeFactor_7 : decode b_G_takeFactor 7 = .ok (.bipush 45, 2) := by decide +kernel
theorem d_G_takeFactor_9 : decode b_G_takeFactor 9 = .ok (.if_icmp .ne 9, 3) := by decide +kernel
theorem d_G_takeFactor_12 : decode b_G_takeFactor 12 = .ok (.aload_n 0, 1) := by decide +kernel
theorem d_G_takeFactor_13 : decode b_G_takeFactor 13 = .ok (.iload_n 1, 1) := by decide +kernel
theorem d_G_takeFactor_14 : decode b_G_takeFactor 14 = .ok (.invokevirtual 95, 3) := by decide +kernel
theorem d_G_takeFactor_17 : decode b_G_takeFactor 17 = .ok (.ireturn, 1) := by decide +kernel
theorem d_G_takeFactor_18 : decode b_G_takeFactor 18 = .ok (.iload_n 1, 1) := by decide +kernel
theorem d_G_takeFactor_19 : decode b_G_takeFactor 19 = .ok (.invokestatic 98, 3) := by decide +kernel
theorem d_G_takeFactor_22 : decode b_G_takeFactor 22 = .ok (.ifCond .ne 13, 3) := by decide +kernel
theorem d_G_takeFactor_25 : decode b_G_takeFactor 25 = .ok (.aload_n 0, 1) := by decide +kernel
theorem d_G_takeFactor_26 : decode b_G_takeFactor 26 = .ok (.iload_n 1, 1) := by decide +kernel
theorem d_G_takeFactor_27 : decode b_G_takeFactor 27 = .ok (.invokevirtual 101, 3) := by decide +kernel
theorem d_G_takeFactor_30 : decode b_G_takeFactor 30 = .ok (.ifCond .ne 5, 3) := by decide +kernel
theorem d_G_takeFactor_33 : decode b_G_takeFactor 33 = .ok (.iconst 0, 1) := by decide +kernel
theorem d_G_takeFactor_34 : decode b_G_takeFactor 34 = .ok (.ireturn, 1) := by decide +kernel
theorem d_G_takeFactor_35 : decode b_G_takeFactor 35 = .ok (.aload_n 0, 1) := by decide +kernel
theorem d_G_takeFactor_36 : decode b_G_takeFactor 36 = .ok (.invokevirtual 104, 3) := by decide +kernel
theorem d_G_takeFactor_39 : decode b_G_takeFactor 39 = .ok (.iconst 1, 1) := by decide +kernel
theorem d_G_takeFactor_40 : decode b_G_takeFactor 40 = .ok (.ireturn, 1) := by decide +kernel
theorem d_G_takeOpening_0 : decode b_G_takeOpening 0 = .ok (.aload_n 0, 1) := by decide +kernel
theorem d_G_takeOpening_1 : decode b_G_takeOpening 1 = .ok (.getfield 52, 3) := by decide +kernel
theorem d_G_takeOpening_4 : decode b_G_takeOpening 4 = .ok (.bipush 8, 2) := by decide +kernel
theorem d_G_takeOpening_6 : decode b_G_takeOpening 6 = .ok (.if_icmp .lt 5, 3) := by decide +kernel
theorem d_G_takeOpening_9 : decode b_G_takeOpening 9 = .ok (.iconst 0, 1) := by decide +kernel
theorem d_G_takeOpening_10 : decode b_G_takeOpening 10 = .ok (.ireturn, 1) := by decide +kernel
theorem d_G_takeOpening_11 : decode b_G_takeOpening 11 = .ok (.aload_n 0, 1) := by decide +kernel
theorem d_G_takeOpening_12 : decode b_G_takeOpening 12 = .ok (.dup, 1) := by decide +kernel
theorem d_G_takeOpening_13 : decode b_G_takeOpening 13 = .ok (.getfield 52, 3) := by decide +kernel
theorem d_G_takeOpening_16 : decode b_G_takeOpening 16 = .ok (.iconst 1, 1) := by decide +kernel
theorem d_G_takeOpening_17 : decode b_G_takeOpening 17 = .ok (.iadd, 1) := by decide +kernel
theorem d_G_takeOpening_18 : decode b_G_takeOpening 18 = .ok (.putfield 52, 3) := by decide +kernel
theorem d_G_takeOpening_21 : decode b_G_takeOpening 21 = .ok (.aload_n 0, 1) := by decide +kernel
theorem d_G_takeOpening_22 : decode b_G_takeOpening 22 = .ok (.aload_n 0, 1) := by decide +kernel
theorem d_G_takeOpening_23 : decode b_G_takeOpening 23 = .ok (.getfield 55, 3) := by decide +kernel
theorem d_G_takeOpening_26 : decode b_G_takeOpening 26 = .ok (.iconst 1, 1) := by decide +kernel
theorem d_G_takeOpening_27 : decode b_G_takeOpening 27 = .ok (.ishl, 1) := by decide +kernel
theorem d_G_takeOpening_28 : decode b_G_takeOpening 28 = .ok (.iload_n 1, 1) := by decide +kernel
theorem d_G_takeOpening_29 : decode b_G_takeOpening 29 = .ok (.bipush 40, 2) := by decide +kernel
theorem d_G_takeOpening_31 : decode b_G_takeOpening 31 = .ok (.if_icmp .ne 7, 3) := by decide +kernel
theorem d_G_takeOpening_34 : decode b_G_takeOpening 34 = .ok (.iconst 1, 1) := by decide +kernel
theorem d_G_takeOpening_35 : decode b_G_takeOpening 35 = .ok (.goto 4, 3) := by decide +kernel
theorem d_G_takeOpening_38 : decode b_G_takeOpening 38 = .ok (.iconst 0, 1) := by decide +kernel
theorem d_G_takeOpening_39 : decode b_G_takeOpening 39 = .ok (.ior, 1) := by decide +kernel
theorem d_G_takeOpening_40 : decode b_G_takeOpening 40 = .ok (.putfield 55, 3) := by decide +kernel
theorem d_G_takeOpening_43 : decode b_G_takeOpening 43 = .ok (.iconst 1, 1) := by decide +kernel
theorem d_G_takeOpening_44 : decode b_G_takeOpening 44 = .ok (.ireturn, 1) := by decide +kernel
theorem d_G_takeAfterFactor_0 : decode b_G_takeAfterFactor 0 = .ok (.iload_n 1, 1) := by decide +kernel
theorem d_G_takeAfterFactor_1 : decode b_G_takeAfterFactor 1 = .ok (.bipush 43, 2) := by decide +kernel
theorem d_G_takeAfterFactor_3 : decode b_G_takeAfterFactor 3 = .ok (.if_icmp .eq 15, 3) := by decide +kernel
theorem d_G_takeAfterFactor_6 : decode b_G_takeAfterFactor 6 = .ok (.iload_n 1, 1) := by decide +kernel
theorem d_G_takeAfterFactor_7 : decode b_G_takeAfterFactor 7 = .ok (.bipush 45, 2) := by decide +kernel
theorem d_G_takeAfterFactor_9 : decode b_G_takeAfterFactor 9 = .ok (.if_icmp .eq 9, 3) := by decide +kernel
theorem d_G_takeAfterFactor_12 : decode b_G_takeAfterFactor 12 = .ok (.iload_n 1, 1) := by decide +kernel
theorem d_G_takeAfterFactor_13 : decode b_G_takeAfterFactor 13 = .ok (.bipush 42, 2) := by decide +kernel
theorem d_G_takeAfterFactor_15 : decode b_G_takeAfterFactor 15 = .ok (.if_icmp .ne 10, 3) := by decide +kernel
theorem d_G_takeAfterFactor_18 : decode b_G_takeAfterFactor 18 = .ok (.aload_n 0, 1) := by decide +kernel
theorem d_G_takeAfterFactor_19 : decode b_G_takeAfterFactor 19 = .ok (.iconst 2, 1) := by decide +kernel
theorem d_G_takeAfterFactor_20 : decode b_G_takeAfterFactor 20 = .ok (.putfield 49, 3) := by decide +kernel
theorem d_G_takeAfterFactor_23 : decode b_G_takeAfterFactor 23 = .ok (.iconst 1, 1) := by decide +kernel
theorem d_G_takeAfterFactor_24 : decode b_G_takeAfterFactor 24 = .ok (.ireturn, 1) := by decide +kernel
theorem d_G_takeAfterFactor_25 : decode b_G_takeAfterFactor 25 = .ok (.aload_n 0, 1) := by decide +kernel
theorem d_G_takeAfterFactor_26 : decode b_G_takeAfterFactor 26 = .ok (.getfield 52, 3) := by decide +kernel
theorem d_G_takeAfterFactor_29 : decode b_G_takeAfterFactor 29 = .ok (.ifCond .ne 9, 3) := by decide +kernel
theorem d_G_takeAfterFactor_32 : decode b_G_takeAfterFactor 32 = .ok (.aload_n 0, 1) := by decide +kernel
theorem d_G_takeAfterFactor_33 : decode b_G_takeAfterFactor 33 = .ok (.iload_n 1, 1) := by decide +kernel
theorem d_G_takeAfterFactor_34 : decode b_G_takeAfterFactor 34 = .ok (.invokevirtual 85, 3) := by decide +kernel
theorem d_G_takeAfterFactor_37 : decode b_G_takeAfterFactor 37 = .ok (.ireturn, 1) := by decide +kernel
theorem d_G_takeAfterFactor_38 : decode b_G_takeAfterFactor 38 = .ok (.iload_n 1, 1) := by decide +kernel
theorem d_G_takeAfterFactor_39 : decode b_G_takeAfterFactor 39 = .ok (.bipush 41, 2) := by decide +kernel
theorem d_G_takeAfterFactor_41 : decode b_G_takeAfterFactor 41 = .ok (.if_icmp .eq 5, 3) := by decide +kernel
theorem d_G_takeAfterFactor_44 : decode b_G_takeAfterFactor 44 = .ok (.iconst 0, 1) := by decide +kernel
theorem d_G_takeAfterFactor_45 : decode b_G_takeAfterFactor 45 = .ok (.ireturn, 1) := by decide +kernel
theorem d_G_takeAfterFactor_46 : decode b_G_takeAfterFactor 46 = .ok (.aload_n 0, 1) := by decide +kernel
theorem d_G_takeAfterFactor_47 : decode b_G_takeAfterFactor 47 = .ok (.dup, 1) := by decide +kernel
theorem d_G_takeAfterFactor_48 : decode b_G_takeAfterFactor 48 = .ok (.getfield 52, 3) := by decide +kernel
theorem d_G_takeAfterFactor_51 : decode b_G_takeAfterFactor 51 = .ok (.iconst 1, 1) := by decide +kernel
theorem d_G_takeAfterFactor_52 : decode b_G_takeAfterFactor 52 = .ok (.isub, 1) := by decide +kernel
theorem d_G_takeAfterFactor_53 : decode b_G_takeAfterFactor 53 = .ok (.putfield 52, 3) := by decide +kernel
theorem d_G_takeAfterFactor_56 : decode b_G_takeAfterFactor 56 = .ok (.aload_n 0, 1) := by decide +kernel
theorem d_G_takeAfterFactor_57 : decode b_G_takeAfterFactor 57 = .ok (.dup, 1) := by decide +kernel
theorem d_G_takeAfterFactor_58 : decode b_G_takeAfterFactor 58 = .ok (.getfield 55, 3) := by decide +kernel
theorem d_G_takeAfterFactor_61 : decode b_G_takeAfterFactor 61 = .ok (.iconst 1, 1) := by decide +kernel
theorem d_G_takeAfterFactor_62 : decode b_G_takeAfterFactor 62 = .ok (.ishr, 1) := by decide +kernel
theorem d_G_takeAfterFactor_63 : decode b_G_takeAfterFactor 63 = .ok (.putfield 55, 3) := by decide +kernel
theorem d_G_takeAfterFactor_66 : decode b_G_takeAfterFactor 66 = .ok (.aload_n 0, 1) := by decide +kernel
theorem d_G_takeAfterFactor_67 : decode b_G_takeAfterFactor 67 = .ok (.invokevirtual 104, 3) := by decide +kernel
theorem d_G_takeAfterFactor_70 : decode b_G_takeAfterFactor 70 = .ok (.iconst 1, 1) := by decide +kernel
theorem d_G_takeAfterFactor_71 : decode b_G_takeAfterFactor 71 = .ok (.ireturn, 1) := by decide +kernel
theorem d_G_endFactor_0 : decode b_G_endFactor 0 = .ok (.aload_n 0, 1) := by decide +kernel
theorem d_G_endFactor_1 : decode b_G_endFactor 1 = .ok (.getfield 52, 3) := by decide +kernel
theorem d_G_endFactor_4 : decode b_G_endFactor 4 = .ok (.ifCond .le 35, 3) := by decide +kernel
theorem d_G_endFactor_7 : decode b_G_endFactor 7 = .ok (.aload_n 0, 1) := by decide +kernel
theorem d_G_endFactor_8 : decode b_G_endFactor 8 = .ok (.getfield 55, 3) := by decide +kernel
theorem d_G_endFactor_11 : decode b_G_endFactor 11 = .ok (.iconst 1, 1) := by decide +kernel
theorem d_G_endFactor_12 : decode b_G_endFactor 12 = .ok (.iand, 1) := by decide +kernel
theorem d_G_endFactor_13 : decode b_G_endFactor 13 = .ok (.ifCond .ne 26, 3) := by decide +kernel
theorem d_G_endFactor_16 : decode b_G_endFactor 16 = .ok (.aload_n 0, 1) := by decide +kernel
theorem d_G_endFactor_17 : decode b_G_endFactor 17 = .ok (.dup, 1) := by decide +kernel
theorem d_G_endFactor_18 : decode b_G_endFactor 18 = .ok (.getfield 52, 3) := by decide +kernel
theorem d_G_endFactor_21 : decode b_G_endFactor 21 = .ok (.iconst 1, 1) := by decide +kernel
theorem d_G_endFactor_22 : decode b_G_endFactor 22 = .ok (.isub, 1) := by decide +kernel
theorem d_G_endFactor_23 : decode b_G_endFactor 23 = .ok (.putfield 52, 3) := by decide +kernel
theorem d_G_endFactor_26 : decode b_G_endFactor 26 = .ok (.aload_n 0, 1) := by decide +kernel
theorem d_G_endFactor_27 : decode b_G_endFactor 27 = .ok (.dup, 1) := by decide +kernel
theorem d_G_endFactor_28 : decode b_G_endFactor 28 = .ok (.getfield 55, 3) := by decide +kernel
theorem d_G_endFactor_31 : decode b_G_endFactor 31 = .ok (.iconst 1, 1) := by decide +kernel
theorem d_G_endFactor_32 : decode b_G_endFactor 32 = .ok (.ishr, 1) := by decide +kernel
theorem d_G_endFactor_33 : decode b_G_endFactor 33 = .ok (.putfield 55, 3) := by decide +kernel
theorem d_G_endFactor_36 : decode b_G_endFactor 36 = .ok (.goto (-36), 3) := by decide +kernel
theorem d_G_endFactor_39 : decode b_G_endFactor 39 = .ok (.aload_n 0, 1) := by decide +kernel
theorem d_G_endFactor_40 : decode b_G_endFactor 40 = .ok (.iconst 3, 1) := by decide +kernel
theorem d_G_endFactor_41 : decode b_G_endFactor 41 = .ok (.putfield 49, 3) := by decide +kernel
theorem d_G_endFactor_44 : decode b_G_endFactor 44 = .ok (.return_, 1) := by decide +kernel
theorem d_G_takeTail_0 : decode b_G_takeTail 0 = .ok (.iload_n 1, 1) := by decide +kernel
theorem d_G_takeTail_1 : decode b_G_takeTail 1 = .ok (.bipush 63, 2) := by decide +kernel
theorem d_G_takeTail_3 : decode b_G_takeTail 3 = .ok (.if_icmp .ne 10, 3) := by decide +kernel
theorem d_G_takeTail_6 : decode b_G_takeTail 6 = .ok (.aload_n 0, 1) := by decide +kernel
theorem d_G_takeTail_7 : decode b_G_takeTail 7 = .ok (.iconst 4, 1) := by decide +kernel
theorem d_G_takeTail_8 : decode b_G_takeTail 8 = .ok (.putfield 49, 3) := by decide +kernel
theorem d_G_takeTail_11 : decode b_G_takeTail 11 = .ok (.iconst 1, 1) := by decide +kernel
theorem d_G_takeTail_12 : decode b_G_takeTail 12 = .ok (.ireturn, 1) := by decide +kernel
theorem d_G_takeTail_13 : decode b_G_takeTail 13 = .ok (.iload_n 1, 1) := by decide +kernel
theorem d_G_takeTail_14 : decode b_G_takeTail 14 = .ok (.bipush 47, 2) := by decide +kernel
theorem d_G_takeTail_16 : decode b_G_takeTail 16 = .ok (.if_icmp .ne 11, 3) := by decide +kernel
theorem d_G_takeTail_19 : decode b_G_takeTail 19 = .ok (.aload_n 0, 1) := by decide +kernel
theorem d_G_takeTail_20 : decode b_G_takeTail 20 = .ok (.bipush 8, 2) := by decide +kernel
theorem d_G_takeTail_22 : decode b_G_takeTail 22 = .ok (.putfield 49, 3) := by decide +kernel
theorem d_G_takeTail_25 : decode b_G_takeTail 25 = .ok (.iconst 1, 1) := by decide +kernel
theorem d_G_takeTail_26 : decode b_G_takeTail 26 = .ok (.ireturn, 1) := by decide +kernel
theorem d_G_takeTail_27 : decode b_G_takeTail 27 = .ok (.iconst 0, 1) := by decide +kernel
theorem d_G_takeTail_28 : decode b_G_takeTail 28 = .ok (.ireturn, 1) := by decide +kernel
theorem d_G_takeConditionColumn_0 : decode b_G_takeConditionColumn 0 = .ok (.aload_n 0, 1) := by decide +kernel
theorem d_G_takeConditionColumn_1 : decode b_G_takeConditionColumn 1 = .ok (.iload_n 1, 1) := by decide +kernel
theorem d_G_takeConditionColumn_2 : decode b_G_takeConditionColumn 2 = .ok (.invokevirtual 101, 3) := by decide +kernel
theorem d_G_takeConditionColumn_5 : decode b_G_takeConditionColumn 5 = .ok (.ifCond .ne 5, 3) := by decide +kernel
theorem d_G_takeConditionColumn_8 : decode b_G_takeConditionColumn 8 = .ok (.iconst 0, 1) := by decide +kernel
theorem d_G_takeConditionColumn_9 : decode b_G_takeConditionColumn 9 = .ok (.ireturn, 1) := by decide +kernel
theorem d_G_takeConditionColumn_10 : decode b_G_takeConditionColumn 10 = .ok (.aload_n 0, 1) := by decide +kernel
theorem d_G_takeConditionColumn_11 : decode b_G_takeConditionColumn 11 = .ok (.iload_n 1, 1) := by decide +kernel
theorem d_G_takeConditionColumn_12 : decode b_G_takeConditionColumn 12 = .ok (.invokestatic 107, 3) := by decide +kernel
theorem d_G_takeConditionColumn_15 : decode b_G_takeConditionColumn 15 = .ok (.putfield 110, 3) := by decide +kernel
theorem d_G_takeConditionColumn_18 : decode b_G_takeConditionColumn 18 = .ok (.aload_n 0, 1) := by decide +kernel
theorem d_G_takeConditionColumn_19 : decode b_G_takeConditionColumn 19 = .ok (.iconst 5, 1) := by decide +kernel
theorem d_G_takeConditionColumn_20 : decode b_G_takeConditionColumn 20 = .ok (.putfield 49, 3) := by decide +kernel
theorem d_G_takeConditionColumn_23 : decode b_G_takeConditionColumn 23 = .ok (.iconst 1, 1) := by decide +kernel
theorem d_G_takeConditionColumn_24 : decode b_G_takeConditionColumn 24 = .ok (.ireturn, 1) := by decide +kernel
theorem d_G_takeConditionKind_0 : decode b_G_takeConditionKind 0 = .ok (.iload_n 1, 1) := by decide +kernel
theorem d_G_takeConditionKind_1 : decode b_G_takeConditionKind 1 = .ok (.bipush 61, 2) := by decide +kernel
theorem d_G_takeConditionKind_3 : decode b_G_takeConditionKind 3 = .ok (.if_icmp .eq 23, 3) := by decide +kernel
theorem d_G_takeConditionKind_6 : decode b_G_takeConditionKind 6 = .ok (.iload_n 1, 1) := by decide +kernel
theorem d_G_takeConditionKind_7 : decode b_G_takeConditionKind 7 = .ok (.bipush 35, 2) := by decide +kernel
theorem d_G_takeConditionKind_9 : decode b_G_takeConditionKind 9 = .ok (.if_icmp .eq 17, 3) := by decide +kernel
theorem d_G_takeConditionKind_12 : decode b_G_takeConditionKind 12 = .ok (.iload_n 1, 1) := by decide +kernel
theorem d_G_takeConditionKind_13 : decode b_G_takeConditionKind 13 = .ok (.bipush 60, 2) := by decide +kernel
theorem d_G_takeConditionKind_15 : decode b_G_takeConditionKind 15 = .ok (.if_icmp .eq 11, 3) := by decide +kernel
theorem d_G_takeConditionKind_18 : decode b_G_takeConditionKind 18 = .ok (.iload_n 1, 1) := by decide +kernel
theorem d_G_takeConditionKind_19 : decode b_G_takeConditionKind 19 = .ok (.bipush 62, 2) := by decide +kernel
theorem d_G_takeConditionKind_21 : decode b_G_takeConditionKind 21 = .ok (.if_icmp .eq 5, 3) := by decide +kernel
theorem d_G_takeConditionKind_24 : decode b_G_takeConditionKind 24 = .ok (.iconst 0, 1) := by decide +kernel
theorem d_G_takeConditionKind_25 : decode b_G_takeConditionKind 25 = .ok (.ireturn, 1) := by decide +kernel
theorem d_G_takeConditionKind_26 : decode b_G_takeConditionKind 26 = .ok (.aload_n 0, 1) := by decide +kernel
theorem d_G_takeConditionKind_27 : decode b_G_takeConditionKind 27 = .ok (.iload_n 1, 1) := by decide +kernel
theorem d_G_takeConditionKind_28 : decode b_G_takeConditionKind 28 = .ok (.putfield 113, 3) := by decide +kernel
theorem d_G_takeConditionKind_31 : decode b_G_takeConditionKind 31 = .ok (.aload_n 0, 1) := by decide +kernel
theorem d_G_takeConditionKind_32 : decode b_G_takeConditionKind 32 = .ok (.bipush 6, 2) := by decide +kernel
theorem d_G_takeConditionKind_34 : decode b_G_takeConditionKind 34 = .ok (.putfield 49, 3) := by decide +kernel
theorem d_G_takeConditionKind_37 : decode b_G_takeConditionKind 37 = .ok (.iconst 1, 1) := by decide +kernel
theorem d_G_takeConditionKind_38 : decode b_G_takeConditionKind 38 = .ok (.ireturn, 1) := by decide +kernel
theorem d_G_takeConditionDigit_0 : decode b_G_takeConditionDigit 0 = .ok (.iload_n 1, 1) := by decide +kernel
theorem d_G_takeConditionDigit_1 : decode b_G_takeConditionDigit 1 = .ok (.invokestatic 98, 3) := by decide +kernel
theorem d_G_takeConditionDigit_4 : decode b_G_takeConditionDigit 4 = .ok (.ifCond .ne 5, 3) := by decide +kernel
theorem d_G_takeConditionDigit_7 : decode b_G_takeConditionDigit 7 = .ok (.iconst 0, 1) := by decide +kernel
theorem d_G_takeConditionDigit_8 : decode b_G_takeConditionDigit 8 = .ok (.ireturn, 1) := by decide +kernel
theorem d_G_takeConditionDigit_9 : decode b_G_takeConditionDigit 9 = .ok (.iconst 0, 1) := by decide +kernel
theorem d_G_takeConditionDigit_10 : decode b_G_takeConditionDigit 10 = .ok (.istore_n 2, 1) := by decide +kernel
theorem d_G_takeConditionDigit_11 : decode b_G_takeConditionDigit 11 = .ok (.iload_n 2, 1) := by decide +kernel
theorem d_G_takeConditionDigit_12 : decode b_G_takeConditionDigit 12 = .ok (.bipush 6, 2) := by decide +kernel
theorem d_G_takeConditionDigit_14 : decode b_G_takeConditionDigit 14 = .ok (.if_icmp .ge 41, 3) := by decide +kernel
theorem d_G_takeConditionDigit_17 : decode b_G_takeConditionDigit 17 = .ok (.iload_n 2, 1) := by decide +kernel
theorem d_G_takeConditionDigit_18 : decode b_G_takeConditionDigit 18 = .ok (.aload_n 0, 1) := by decide +kernel
theorem d_G_takeConditionDigit_19 : decode b_G_takeConditionDigit 19 = .ok (.getfield 113, 3) := by decide +kernel
theorem d_G_takeConditionDigit_22 : decode b_G_takeConditionDigit 22 = .ok (.iload_n 1, 1) := by decide +kernel
theorem d_G_takeConditionDigit_23 : decode b_G_takeConditionDigit 23 = .ok (.bipush 48, 2) := by decide +kernel
theorem d_G_takeConditionDigit_25 : decode b_G_takeConditionDigit 25 = .ok (.isub, 1) := by decide +kernel
theorem d_G_takeConditionDigit_26 : decode b_G_takeConditionDigit 26 = .ok (.invokestatic 117, 3) := by decide +kernel
theorem d_G_takeConditionDigit_29 : decode b_G_takeConditionDigit 29 = .ok (.ifCond .ne 20, 3) := by decide +kernel
theorem d_G_takeConditionDigit_32 : decode b_G_takeConditionDigit 32 = .ok (.aload_n 0, 1) := by decide +kernel
theorem d_G_takeConditionDigit_33 : decode b_G_takeConditionDigit 33 = .ok (.getfield 9, 3) := by decide +kernel
theorem d_G_takeConditionDigit_36 : decode b_G_takeConditionDigit 36 = .ok (.aload_n 0, 1) := by decide +kernel
theorem d_G_takeConditionDigit_37 : decode b_G_takeConditionDigit 37 = .ok (.getfield 110, 3) := by decide +kernel
theorem d_G_takeConditionDigit_40 : decode b_G_takeConditionDigit 40 = .ok (.dup2, 1) := by decide +kernel
theorem d_G_takeConditionDigit_41 : decode b_G_takeConditionDigit 41 = .ok (.iaload, 1) := by decide +kernel
theorem d_G_takeConditionDigit_42 : decode b_G_takeConditionDigit 42 = .ok (.iconst 1, 1) := by decide +kernel
theorem d_G_takeConditionDigit_43 : decode b_G_takeConditionDigit 43 = .ok (.iload_n 2, 1) := by decide +kernel
theorem d_G_takeConditionDigit_44 : decode b_G_takeConditionDigit 44 = .ok (.ishl, 1) := by decide +kernel
theorem d_G_takeConditionDigit_45 : decode b_G_takeConditionDigit 45 = .ok (.iconst (-1), 1) := by decide +kernel
theorem d_G_takeConditionDigit_46 : decode b_G_takeConditionDigit 46 = .ok (.ixor, 1) := by decide +kernel
theorem d_G_takeConditionDigit_47 : decode b_G_takeConditionDigit 47 = .ok (.iand, 1) := by decide +kernel
theorem d_G_takeConditionDigit_48 : decode b_G_takeConditionDigit 48 = .ok (.iastore, 1) := by decide +kernel
theorem d_G_takeConditionDigit_49 : decode b_G_takeConditionDigit 49 = .ok (.iinc 2 1, 3) := by decide +kernel
theorem d_G_takeConditionDigit_52 : decode b_G_takeConditionDigit 52 = .ok (.goto (-41), 3) := by decide +kernel
theorem d_G_takeConditionDigit_55 : decode b_G_takeConditionDigit 55 = .ok (.aload_n 0, 1) := by decide +kernel
theorem d_G_takeConditionDigit_56 : decode b_G_takeConditionDigit 56 = .ok (.dup, 1) := by decide +kernel
theorem d_G_takeConditionDigit_57 : decode b_G_takeConditionDigit 57 = .ok (.getfield 43, 3) := by decide +kernel
theorem d_G_takeConditionDigit_60 : decode b_G_takeConditionDigit 60 = .ok (.iconst 1, 1) := by decide +kernel
theorem d_G_takeConditionDigit_61 : decode b_G_takeConditionDigit 61 = .ok (.iadd, 1) := by decide +kernel
theorem d_G_takeConditionDigit_62 : decode b_G_takeConditionDigit 62 = .ok (.putfield 43, 3) := by decide +kernel
theorem d_G_takeConditionDigit_65 : decode b_G_takeConditionDigit 65 = .ok (.aload_n 0, 1) := by decide +kernel
theorem d_G_takeConditionDigit_66 : decode b_G_takeConditionDigit 66 = .ok (.bipush 7, 2) := by decide +kernel
theorem d_G_takeConditionDigit_68 : decode b_G_takeConditionDigit 68 = .ok (.putfield 49, 3) := by decide +kernel
theorem d_G_takeConditionDigit_71 : decode b_G_takeConditionDigit 71 = .ok (.iconst 1, 1) := by decide +kernel
theorem d_G_takeConditionDigit_72 : decode b_G_takeConditionDigit 72 = .ok (.ireturn, 1) := by decide +kernel
theorem d_G_meets_0 : decode b_G_meets 0 = .ok (.iload_n 1, 1) := by decide +kernel
theorem d_G_meets_1 : decode b_G_meets 1 = .ok (.lookupswitch 68 #[(35, 46), (60, 57), (61, 35)], 35) := by decide +kernel
theorem d_G_meets_36 : decode b_G_meets 36 = .ok (.iload_n 0, 1) := by decide +kernel
theorem d_G_meets_37 : decode b_G_meets 37 = .ok (.iload_n 2, 1) := by decide +kernel
theorem d_G_meets_38 : decode b_G_meets 38 = .ok (.if_icmp .ne 7, 3) := by decide +kernel
theorem d_G_meets_41 : decode b_G_meets 41 = .ok (.iconst 1, 1) := by decide +kernel
theorem d_G_meets_42 : decode b_G_meets 42 = .ok (.goto 4, 3) := by decide +kernel
theorem d_G_meets_45 : decode b_G_meets 45 = .ok (.iconst 0, 1) := by decide +kernel
theorem d_G_meets_46 : decode b_G_meets 46 = .ok (.ireturn, 1) := by decide +kernel
theorem d_G_meets_47 : decode b_G_meets 47 = .ok (.iload_n 0, 1) := by decide +kernel
theorem d_G_meets_48 : decode b_G_meets 48 = .ok (.iload_n 2, 1) := by decide +kernel
theorem d_G_meets_49 : decode b_G_meets 49 = .ok (.if_icmp .eq 7, 3) := by decide +kernel
theorem d_G_meets_52 : decode b_G_meets 52 = .ok (.iconst 1, 1) := by decide +kernel
theorem d_G_meets_53 : decode b_G_meets 53 = .ok (.goto 4, 3) := by decide +kernel
theorem d_G_meets_56 : decode b_G_meets 56 = .ok (.iconst 0, 1) := by decide +kernel
theorem d_G_meets_57 : decode b_G_meets 57 = .ok (.ireturn, 1) := by decide +kernel
theorem d_G_meets_58 : decode b_G_meets 58 = .ok (.iload_n 0, 1) := by decide +kernel
theorem d_G_meets_59 : decode b_G_meets 59 = .ok (.iload_n 2, 1) := by decide +kernel
theorem d_G_meets_60 : decode b_G_meets 60 = .ok (.if_icmp .ge 7, 3) := by decide +kernel
theorem d_G_meets_63 : decode b_G_meets 63 = .ok (.iconst 1, 1) := by decide +kernel
theorem d_G_meets_64 : decode b_G_meets 64 = .ok (.goto 4, 3) := by decide +kernel
theorem d_G_meets_67 : decode b_G_meets 67 = .ok (.iconst 0, 1) := by decide +kernel
theorem d_G_meets_68 : decode b_G_meets 68 = .ok (.ireturn, 1) := by decide +kernel
theorem d_G_meets_69 : decode b_G_meets 69 = .ok (.iload_n 0, 1) := by decide +kernel
theorem d_G_meets_70 : decode b_G_meets 70 = .ok (.iload_n 2, 1) := by decide +kernel
theorem d_G_meets_71 : decode b_G_meets 71 = .ok (.if_icmp .le 7, 3) := by decide +kernel
theorem d_G_meets_74 : decode b_G_meets 74 = .ok (.iconst 1, 1) := by decide +kernel
theorem d_G_meets_75 : decode b_G_meets 75 = .ok (.goto 4, 3) := by decide +kernel
theorem d_G_meets_78 : decode b_G_meets 78 = .ok (.iconst 0, 1) := by decide +kernel
theorem d_G_meets_79 : decode b_G_meets 79 = .ok (.ireturn, 1) := by decide +kernel
theorem d_G_takeGroupColumn_0 : decode b_G_takeGroupColumn 0 = .ok (.aload_n 0, 1) := by decide +kernel
theorem d_G_takeGroupColumn_1 : decode b_G_takeGroupColumn 1 = .ok (.iload_n 1, 1) := by decide +kernel
theorem d_G_takeGroupColumn_2 : decode b_G_takeGroupColumn 2 = .ok (.invokevirtual 101, 3) := by decide +kernel
theorem d_G_takeGroupColumn_5 : decode b_G_takeGroupColumn 5 = .ok (.ifCond .ne 5, 3) := by decide +kernel
theorem d_G_takeGroupColumn_8 : decode b_G_takeGroupColumn 8 = .ok (.iconst 0, 1) := by decide +kernel
theorem d_G_takeGroupColumn_9 : decode b_G_takeGroupColumn 9 = .ok (.ireturn, 1) := by decide +kernel
theorem d_G_takeGroupColumn_10 : decode b_G_takeGroupColumn 10 = .ok (.aload_n 0, 1) := by decide +kernel
theorem d_G_takeGroupColumn_11 : decode b_G_takeGroupColumn 11 = .ok (.iload_n 1, 1) := by decide +kernel
theorem d_G_takeGroupColumn_12 : decode b_G_takeGroupColumn 12 = .ok (.invokestatic 107, 3) := by decide +kernel
theorem d_G_takeGroupColumn_15 : decode b_G_takeGroupColumn 15 = .ok (.putfield 46, 3) := by decide +kernel
theorem d_G_takeGroupColumn_18 : decode b_G_takeGroupColumn 18 = .ok (.aload_n 0, 1) := by decide +kernel
theorem d_G_takeGroupColumn_19 : decode b_G_takeGroupColumn 19 = .ok (.bipush 9, 2) := by decide +kernel
theorem d_G_takeGroupColumn_21 : decode b_G_takeGroupColumn 21 = .ok (.putfield 49, 3) := by decide +kernel
theorem d_G_takeGroupColumn_24 : decode b_G_takeGroupColumn 24 = .ok (.iconst 1, 1) := by decide +kernel
theorem d_G_takeGroupColumn_25 : decode b_G_takeGroupColumn 25 = .ok (.ireturn, 1) := by decide +kernel
theorem d_G_isChainColumn_0 : decode b_G_isChainColumn 0 = .ok (.iload_n 1, 1) := by decide +kernel
theorem d_G_isChainColumn_1 : decode b_G_isChainColumn 1 = .ok (.invokestatic 107, 3) := by decide +kernel
theorem d_G_isChainColumn_4 : decode b_G_isChainColumn 4 = .ok (.istore_n 2, 1) := by decide +kernel
theorem d_G_isChainColumn_5 : decode b_G_isChainColumn 5 = .ok (.iload_n 2, 1) := by decide +kernel
theorem d_G_isChainColumn_6 : decode b_G_isChainColumn 6 = .ok (.aload_n 0, 1) := by decide +kernel
theorem d_G_isChainColumn_7 : decode b_G_isChainColumn 7 = .ok (.getfield 36, 3) := by decide +kernel
theorem d_G_isChainColumn_10 : decode b_G_isChainColumn 10 = .ok (.if_icmp .lt 17, 3) := by decide +kernel
theorem d_G_isChainColumn_13 : decode b_G_isChainColumn 13 = .ok (.iload_n 2, 1) := by decide +kernel
theorem d_G_isChainColumn_14 : decode b_G_isChainColumn 14 = .ok (.aload_n 0, 1) := by decide +kernel
theorem d_G_isChainColumn_15 : decode b_G_isChainColumn 15 = .ok (.getfield 40, 3) := by decide +kernel
theorem d_G_isChainColumn_18 : decode b_G_isChainColumn 18 = .ok (.iconst 1, 1) := by decide +kernel
theorem d_G_isChainColumn_19 : decode b_G_isChainColumn 19 = .ok (.iadd, 1) := by decide +kernel
theorem d_G_isChainColumn_20 : decode b_G_isChainColumn 20 = .ok (.if_icmp .gt 7, 3) := by decide +kernel
theorem d_G_isChainColumn_23 : decode b_G_isChainColumn 23 = .ok (.iconst 1, 1) := by decide +kernel
theorem d_G_isChainColumn_24 : decode b_G_isChainColumn 24 = .ok (.goto 4, 3) := by decide +kernel
theorem d_G_isChainColumn_27 : decode b_G_isChainColumn 27 = .ok (.iconst 0, 1) := by decide +kernel
theorem d_G_isChainColumn_28 : decode b_G_isChainColumn 28 = .ok (.ireturn, 1) := by decide +kernel
theorem d_P_init_0 : decode b_P_init 0 = .ok (.aload_n 0, 1) := by decide +kernel
theorem d_P_init_1 : decode b_P_init 1 = .ok (.invokespecial 3, 3) := by decide +kernel
theorem d_P_init_4 : decode b_P_init 4 = .ok (.aload_n 0, 1) := by decide +kernel
theorem d_P_init_5 : decode b_P_init 5 = .ok (.bipush 81, 2) := by decide +kernel
theorem d_P_init_7 : decode b_P_init 7 = .ok (.newarray .int, 2) := by decide +kernel
theorem d_P_init_9 : decode b_P_init 9 = .ok (.putfield 11, 3) := by decide +kernel
theorem d_P_init_12 : decode b_P_init 12 = .ok (.return_, 1) := by decide +kernel
theorem d_P_powerAt_0 : decode b_P_powerAt 0 = .ok (.iload_n 0, 1) := by decide +kernel
theorem d_P_powerAt_1 : decode b_P_powerAt 1 = .ok (.getstatic 15, 3) := by decide +kernel
theorem d_P_powerAt_4 : decode b_P_powerAt 4 = .ok (.iload_n 1, 1) := by decide +kernel
theorem d_P_powerAt_5 : decode b_P_powerAt 5 = .ok (.iaload, 1) := by decide +kernel
theorem d_P_powerAt_6 : decode b_P_powerAt 6 = .ok (.idiv, 1) := by decide +kernel
theorem d_P_powerAt_7 : decode b_P_powerAt 7 = .ok (.iconst 3, 1) := by decide +kernel
theorem d_P_powerAt_8 : decode b_P_powerAt 8 = .ok (.irem, 1) := by decide +kernel
theorem d_P_powerAt_9 : decode b_P_powerAt 9 = .ok (.ireturn, 1) := by decide +kernel
theorem d_P_at_0 : decode b_P_at 0 = .ok (.aload_n 0, 1) := by decide +kernel
theorem d_P_at_1 : decode b_P_at 1 = .ok (.getfield 11, 3) := by decide +kernel
theorem d_P_at_4 : decode b_P_at 4 = .ok (.iload_n 1, 1) := by decide +kernel
theorem d_P_at_5 : decode b_P_at 5 = .ok (.iaload, 1) := by decide +kernel
theorem d_P_at_6 : decode b_P_at 6 = .ok (.ireturn, 1) := by decide +kernel
theorem d_P_terms_0 : decode b_P_terms 0 = .ok (.iconst 0, 1) := by decide +kernel
theorem d_P_terms_1 : decode b_P_terms 1 = .ok (.istore_n 1, 1) := by decide +kernel
theorem d_P_terms_2 : decode b_P_terms 2 = .ok (.iconst 0, 1) := by decide +kernel
theorem d_P_terms_3 : decode b_P_terms 3 = .ok (.istore_n 2, 1) := by decide +kernel
theorem d_P_terms_4 : decode b_P_terms 4 = .ok (.iload_n 2, 1) := by decide +kernel
theorem d_P_terms_5 : decode b_P_terms 5 = .ok (.bipush 81, 2) := by decide +kernel
theorem d_P_terms_7 : decode b_P_terms 7 = .ok (.if_icmp .ge 21, 3) := by decide +kernel
theorem d_P_terms_10 : decode b_P_terms 10 = .ok (.aload_n 0, 1) := by decide +kernel
theorem d_P_terms_11 : decode b_P_terms 11 = .ok (.getfield 11, 3) := by decide +kernel
theorem d_P_terms_14 : decode b_P_terms 14 = .ok (.iload_n 2, 1) := by decide +kernel
theorem d_P_terms_15 : decode b_P_terms 15 = .ok (.iaload, 1) := by decide +kernel
theorem d_P_terms_16 : decode b_P_terms 16 = .ok (.ifCond .eq 6, 3) := by decide +kernel
theorem d_P_terms_19 : decode b_P_terms 19 = .ok (.iinc 1 1, 3) := by decide +kernel
theorem d_P_terms_22 : decode b_P_terms 22 = .ok (.iinc 2 1, 3) := by decide +kernel
theorem d_P_terms_25 : decode b_P_terms 25 = .ok (.goto (-21), 3) := by decide +kernel
theorem d_P_terms_28 : decode b_P_terms 28 = .ok (.iload_n 1, 1) := by decide +kernel
theorem d_P_terms_29 : decode b_P_terms 29 = .ok (.ireturn, 1) := by decide +kernel
theorem d_P_becomeNumber_0 : decode b_P_becomeNumber 0 = .ok (.aload_n 0, 1) := by decide +kernel
theorem d_P_becomeNumber_1 : decode b_P_becomeNumber 1 = .ok (.getfield 11, 3) := by decide +kernel
theorem d_P_becomeNumber_4 : decode b_P_becomeNumber 4 = .ok (.iconst 0, 1) := by decide +kernel
theorem d_P_becomeNumber_5 : decode b_P_becomeNumber 5 = .ok (.invokestatic 18, 3) := by decide +kernel
theorem d_P_becomeNumber_8 : decode b_P_becomeNumber 8 = .ok (.aload_n 0, 1) := by decide +kernel
theorem d_P_becomeNumber_9 : decode b_P_becomeNumber 9 = .ok (.getfield 11, 3) := by decide +kernel
theorem d_P_becomeNumber_12 : decode b_P_becomeNumber 12 = .ok (.iconst 0, 1) := by decide +kernel
theorem d_P_becomeNumber_13 : decode b_P_becomeNumber 13 = .ok (.iload_n 1, 1) := by decide +kernel
theorem d_P_becomeNumber_14 : decode b_P_becomeNumber 14 = .ok (.iastore, 1) := by decide +kernel
theorem d_P_becomeNumber_15 : decode b_P_becomeNumber 15 = .ok (.return_, 1) := by decide +kernel
theorem d_P_becomeColumn_0 : decode b_P_becomeColumn 0 = .ok (.aload_n 0, 1) := by decide +kernel
theorem d_P_becomeColumn_1 : decode b_P_becomeColumn 1 = .ok (.getfield 11, 3) := by decide +kernel
theorem d_P_becomeColumn_4 : decode b_P_becomeColumn 4 = .ok (.iconst 0, 1) := by decide +kernel
theorem d_P_becomeColumn_5 : decode b_P_becomeColumn 5 = .ok (.invokestatic 18, 3) := by decide +kernel
theorem d_P_becomeColumn_8 : decode b_P_becomeColumn 8 = .ok (.aload_n 0, 1) := by decide +kernel
theorem d_P_becomeColumn_9 : decode b_P_becomeColumn 9 = .ok (.getfield 11, 3) := by decide +kernel
theorem d_P_becomeColumn_12 : decode b_P_becomeColumn 12 = .ok (.getstatic 15, 3) := by decide +kernel
theorem d_P_becomeColumn_15 : decode b_P_becomeColumn 15 = .ok (.iload_n 1, 1) := by decide +kernel
theorem d_P_becomeColumn_16 : decode b_P_becomeColumn 16 = .ok (.iaload, 1) := by decide +kernel
theorem d_P_becomeColumn_17 : decode b_P_becomeColumn 17 = .ok (.iconst 1, 1) := by decide +kernel
theorem d_P_becomeColumn_18 : decode b_P_becomeColumn 18 = .ok (.iastore, 1) := by decide +kernel
theorem d_P_becomeColumn_19 : decode b_P_becomeColumn 19 = .ok (.return_, 1) := by decide +kernel
theorem d_P_becomeCopy_0 : decode b_P_becomeCopy 0 = .ok (.aload_n 1, 1) := by decide +kernel
theorem d_P_becomeCopy_1 : decode b_P_becomeCopy 1 = .ok (.getfield 11, 3) := by decide +kernel
theorem d_P_becomeCopy_4 : decode b_P_becomeCopy 4 = .ok (.iconst 0, 1) := by decide +kernel
theorem d_P_becomeCopy_5 : decode b_P_becomeCopy 5 = .ok (.aload_n 0, 1) := by decide +kernel
theorem d_P_becomeCopy_6 : decode b_P_becomeCopy 6 = .ok (.getfield 11, 3) := by decide +kernel
theorem d_P_becomeCopy_9 : decode b_P_becomeCopy 9 = .ok (.iconst 0, 1) := by decide +kernel
theorem d_P_becomeCopy_10 : decode b_P_becomeCopy 10 = .ok (.bipush 81, 2) := by decide +kernel
theorem d_P_becomeCopy_12 : decode b_P_becomeCopy 12 = .ok (.invokestatic 24, 3) := by decide +kernel
theorem d_P_becomeCopy_15 : decode b_P_becomeCopy 15 = .ok (.return_, 1) := by decide +kernel
theorem d_P_becomeNegative_0 : decode b_P_becomeNegative 0 = .ok (.iconst 0, 1) := by decide +kernel
theorem d_P_becomeNegative_1 : decode b_P_becomeNegative 1 = .ok (.istore_n 2, 1) := by decide +kernel
theorem d_P_becomeNegative_2 : decode b_P_becomeNegative 2 = .ok (.iload_n 2, 1) := by decide +kernel
theorem d_P_becomeNegative_3 : decode b_P_becomeNegative 3 = .ok (.bipush 81, 2) := by decide +kernel
theorem d_P_becomeNegative_5 : decode b_P_becomeNegative 5 = .ok (.if_icmp .ge 22, 3) := by decide +kernel
theorem d_P_becomeNegative_8 : decode b_P_becomeNegative 8 = .ok (.aload_n 0, 1) := by decide +kernel
theorem d_P_becomeNegative_9 : decode b_P_becomeNegative 9 = .ok (.getfield 11, 3) := by decide +kernel
theorem d_P_becomeNegative_12 : decode b_P_becomeNegative 12 = .ok (.iload_n 2, 1) := by decide +kernel
theorem d_P_becomeNegative_13 : decode b_P_becomeNegative 13 = .ok (.aload_n 1, 1) := by decide +kernel
theorem d_P_becomeNegative_14 : decode b_P_becomeNegative 14 = .ok (.getfield 11, 3) := by decide +kernel
theorem d_P_becomeNegative_17 : decode b_P_becomeNegative 17 = .ok (.iload_n 2, 1) := by decide +kernel
theorem d_P_becomeNegative_18 : decode b_P_becomeNegative 18 = .ok (.iaload, 1) := by decide +kernel
theorem d_P_becomeNegative_19 : decode b_P_becomeNegative 19 = .ok (.ineg, 1) := by decide +kernel
theorem d_P_becomeNegative_20 : decode b_P_becomeNegative 20 = .ok (.iastore, 1) := by decide +kernel
theorem d_P_becomeNegative_21 : decode b_P_becomeNegative 21 = .ok (.iinc 2 1, 3) := by decide +kernel
theorem d_P_becomeNegative_24 : decode b_P_becomeNegative 24 = .ok (.goto (-22), 3) := by decide +kernel
theorem d_P_becomeNegative_27 : decode b_P_becomeNegative 27 = .ok (.return_, 1) := by decide +kernel
theorem d_P_add_0 : decode b_P_add 0 = .ok (.iconst 0, 1) := by decide +kernel
theorem d_P_add_1 : decode b_P_add 1 = .ok (.istore_n 3, 1) := by decide +kernel
theorem d_P_add_2 : decode b_P_add 2 = .ok (.iload_n 3, 1) := by decide +kernel
theorem d_P_add_3 : decode b_P_add 3 = .ok (.bipush 81, 2) := by decide +kernel
theorem d_P_add_5 : decode b_P_add 5 = .ok (.if_icmp .ge 26, 3) := by decide +kernel
theorem d_P_add_8 : decode b_P_add 8 = .ok (.aload_n 0, 1) := by decide +kernel
theorem d_P_add_9 : decode b_P_add 9 = .ok (.getfield 11, 3) := by decide +kernel
theorem d_P_add_12 : decode b_P_add 12 = .ok (.iload_n 3, 1) := by decide +kernel
theorem d_P_add_13 : decode b_P_add 13 = .ok (.dup2, 1) := by decide +kernel
theorem d_P_add_14 : decode b_P_add 14 = .ok (.iaload, 1) := by decide +kernel
theorem d_P_add_15 : decode b_P_add 15 = .ok (.iload_n 2, 1) := by decide +kernel
theorem d_P_add_16 : decode b_P_add 16 = .ok (.aload_n 1, 1) := by decide +kernel
theorem d_P_add_17 : decode b_P_add 17 = .ok (.getfield 11, 3) := by decide +kernel
theorem d_P_add_20 : decode b_P_add 20 = .ok (.iload_n 3, 1) := by decide +kernel
theorem d_P_add_21 : decode b_P_add 21 = .ok (.iaload, 1) := by decide +kernel
theorem d_P_add_22 : decode b_P_add 22 = .ok (.imul, 1) := by decide +kernel
theorem d_P_add_23 : decode b_P_add 23 = .ok (.iadd, 1) := by decide +kernel
theorem d_P_add_24 : decode b_P_add 24 = .ok (.iastore, 1) := by decide +kernel
theorem d_P_add_25 : decode b_P_add 25 = .ok (.iinc 3 1, 3) := by decide +kernel
theorem d_P_add_28 : decode b_P_add 28 = .ok (.goto (-26), 3) := by decide +kernel
theorem d_P_add_31 : decode b_P_add 31 = .ok (.aload_n 0, 1) := by decide +kernel
theorem d_P_add_32 : decode b_P_add 32 = .ok (.invokevirtual 30, 3) := by decide +kernel
theorem d_P_add_35 : decode b_P_add 35 = .ok (.ifCond .ne 7, 3) := by decide +kernel
theorem d_P_add_38 : decode b_P_add 38 = .ok (.iconst 1, 1) := by decide +kernel
theorem d_P_add_39 : decode b_P_add 39 = .ok (.goto 4, 3) := by decide +kernel
theorem d_P_add_42 : decode b_P_add 42 = .ok (.iconst 0, 1) := by decide +kernel
theorem d_P_add_43 : decode b_P_add 43 = .ok (.ireturn, 1) := by decide +kernel
theorem d_P_becomeProduct_0 : decode b_P_becomeProduct 0 = .ok (.aload_n 0, 1) := by decide +kernel
theorem d_P_becomeProduct_1 : decode b_P_becomeProduct 1 = .ok (.getfield 11, 3) := by decide +kernel
theorem d_P_becomeProduct_4 : decode b_P_becomeProduct 4 = .ok (.iconst 0, 1) := by decide +kernel
theorem d_P_becomeProduct_5 : decode b_P_becomeProduct 5 = .ok (.invokestatic 18, 3) := by decide +kernel
theorem d_P_becomeProduct_8 : decode b_P_becomeProduct 8 = .ok (.iconst 0, 1) := by decide +kernel
theorem d_P_becomeProduct_9 : decode b_P_becomeProduct 9 = .ok (.istore_n 3, 1) := by decide +kernel
theorem d_P_becomeProduct_10 : decode b_P_becomeProduct 10 = .ok (.iload_n 3, 1) := by decide +kernel
theorem d_P_becomeProduct_11 : decode b_P_becomeProduct 11 = .ok (.bipush 81, 2) := by decide +kernel
theorem d_P_becomeProduct_13 : decode b_P_becomeProduct 13 = .ok (.if_icmp .ge 87, 3) := by decide +kernel
theorem d_P_becomeProduct_16 : decode b_P_becomeProduct 16 = .ok (.aload_n 1, 1) := by decide +kernel
theorem d_P_becomeProduct_17 : decode b_P_becomeProduct 17 = .ok (.getfield 11, 3) := by decide +kernel
theorem d_P_becomeProduct_20 : decode b_P_becomeProduct 20 = .ok (.iload_n 3, 1) := by decide +kernel
theorem d_P_becomeProduct_21 : decode b_P_becomeProduct 21 = .ok (.iaload, 1) := by decide +kernel
theorem d_P_becomeProduct_22 : decode b_P_becomeProduct 22 = .ok (.ifCond .ne 6, 3) := by decide +kernel
theorem d_P_becomeProduct_25 : decode b_P_becomeProduct 25 = .ok (.goto 69, 3) := by decide +kernel
theorem d_P_becomeProduct_28 : decode b_P_becomeProduct 28 = .ok (.iconst 0, 1) := by decide +kernel
theorem d_P_becomeProduct_29 : decode b_P_becomeProduct 29 = .ok (.istore 4, 2) := by decide +kernel
theorem d_P_becomeProduct_31 : decode b_P_becomeProduct 31 = .ok (.iload 4, 2) := by decide +kernel
theorem d_P_becomeProduct_33 : decode b_P_becomeProduct 33 = .ok (.bipush 81, 2) := by decide +kernel
theorem d_P_becomeProduct_35 : decode b_P_becomeProduct 35 = .ok (.if_icmp .ge 59, 3) := by decide +kernel
theorem d_P_becomeProduct_38 : decode b_P_becomeProduct 38 = .ok (.aload_n 2, 1) := by decide +kernel
theorem d_P_becomeProduct_39 : decode b_P_becomeProduct 39 = .ok (.getfield 11, 3) := by decide +kernel
theorem d_P_becomeProduct_42 : decode b_P_becomeProduct 42 = .ok (.iload 4, 2) := by decide +kernel
theorem d_P_becomeProduct_44 : decode b_P_becomeProduct 44 = .ok (.iaload, 1) := by decide +kernel
theorem d_P_becomeProduct_45 : decode b_P_becomeProduct 45 = .ok (.ifCond .ne 6, 3) := by decide +kernel
theorem d_P_becomeProduct_48 : decode b_P_becomeProduct 48 = .ok (.goto 40, 3) := by decide +kernel
