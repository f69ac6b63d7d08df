theorem d_K_init_0 : decode b_K_init 0 = .ok (.aload_n 0, 1) := by decide +kernel
theorem d_K_init_1 : decode b_K_init 1 = .ok (.invokespecial 1, 3) := by decide +kernel
theorem d_K_init_4 : decode b_K_init 4 = .ok (.aload_n 0, 1) := by decide +kernel
theorem d_K_init_5 : decode b_K_init 5 = .ok (.new 7, 3) := by decide +kernel
theorem d_K_init_8 : decode b_K_init 8 = .ok (.dup, 1) := by decide +kernel
theorem d_K_init_9 : decode b_K_init 9 = .ok (.invokespecial 9, 3) := by decide +kernel
theorem d_K_init_12 : decode b_K_init 12 = .ok (.putfield 10, 3) := by decide +kernel
theorem d_K_init_15 : decode b_K_init 15 = .ok (.aload_n 0, 1) := by decide +kernel
theorem d_K_init_16 : decode b_K_init 16 = .ok (.new 16, 3) := by decide +kernel
theorem d_K_init_19 : decode b_K_init 19 = .ok (.dup, 1) := by decide +kernel
theorem d_K_init_20 : decode b_K_init 20 = .ok (.invokespecial 18, 3) := by decide +kernel
theorem d_K_init_23 : decode b_K_init 23 = .ok (.putfield 19, 3) := by decide +kernel
theorem d_K_init_26 : decode b_K_init 26 = .ok (.aload_n 0, 1) := by decide +kernel
theorem d_K_init_27 : decode b_K_init 27 = .ok (.new 23, 3) := by decide +kernel
theorem d_K_init_30 : decode b_K_init 30 = .ok (.dup, 1) := by decide +kernel
theorem d_K_init_31 : decode b_K_init 31 = .ok (.invokespecial 25, 3) := by decide +kernel
theorem d_K_init_34 : decode b_K_init 34 = .ok (.putfield 26, 3) := by decide +kernel
theorem d_K_init_37 : decode b_K_init 37 = .ok (.aload_n 0, 1) := by decide +kernel
theorem d_K_init_38 : decode b_K_init 38 = .ok (.new 30, 3) := by decide +kernel
theorem d_K_init_41 : decode b_K_init 41 = .ok (.dup, 1) := by decide +kernel
theorem d_K_init_42 : decode b_K_init 42 = .ok (.invokespecial 32, 3) := by decide +kernel
theorem d_K_init_45 : decode b_K_init 45 = .ok (.putfield 33, 3) := by decide +kernel
theorem d_K_init_48 : decode b_K_init 48 = .ok (.aload_n 0, 1) := by decide +kernel
theorem d_K_init_49 : decode b_K_init 49 = .ok (.iconst 4, 1) := by decide +kernel
theorem d_K_init_50 : decode b_K_init 50 = .ok (.anewarray 37, 3) := by decide +kernel
theorem d_K_init_53 : decode b_K_init 53 = .ok (.putfield 39, 3) := by decide +kernel
theorem d_K_init_56 : decode b_K_init 56 = .ok (.iconst 0, 1) := by decide +kernel
theorem d_K_init_57 : decode b_K_init 57 = .ok (.istore_n 1, 1) := by decide +kernel
theorem d_K_init_58 : decode b_K_init 58 = .ok (.iload_n 1, 1) := by decide +kernel
theorem d_K_init_59 : decode b_K_init 59 = .ok (.iconst 4, 1) := by decide +kernel
theorem d_K_init_60 : decode b_K_init 60 = .ok (.if_icmp .ge 22, 3) := by decide +kernel
theorem d_K_init_63 : decode b_K_init 63 = .ok (.aload_n 0, 1) := by decide +kernel
theorem d_K_init_64 : decode b_K_init 64 = .ok (.getfield 39, 3) := by decide +kernel
theorem d_K_init_67 : decode b_K_init 67 = .ok (.iload_n 1, 1) := by decide +kernel
theorem d_K_init_68 : decode b_K_init 68 = .ok (.new 37, 3) := by decide +kernel
theorem d_K_init_71 : decode b_K_init 71 = .ok (.dup, 1) := by decide +kernel
theorem d_K_init_72 : decode b_K_init 72 = .ok (.invokespecial 43, 3) := by decide +kernel
theorem d_K_init_75 : decode b_K_init 75 = .ok (.aastore, 1) := by decide +kernel
theorem d_K_init_76 : decode b_K_init 76 = .ok (.iinc 1 1, 3) := by decide +kernel
theorem d_K_init_79 : decode b_K_init 79 = .ok (.goto (-21), 3) := by decide +kernel
theorem d_K_init_82 : decode b_K_init 82 = .ok (.return_, 1) := by decide +kernel
theorem d_K_change_0 : decode b_K_change 0 = .ok (.iload_n 1, 1) := by decide +kernel
theorem d_K_change_1 : decode b_K_change 1 = .ok (.iload_n 2, 1) := by decide +kernel
theorem d_K_change_2 : decode b_K_change 2 = .ok (.iload_n 3, 1) := by decide +kernel
theorem d_K_change_3 : decode b_K_change 3 = .ok (.invokestatic 44, 3) := by decide +kernel
theorem d_K_change_6 : decode b_K_change 6 = .ok (.ifCond .ne 5, 3) := by decide +kernel
theorem d_K_change_9 : decode b_K_change 9 = .ok (.iconst (-1), 1) := by decide +kernel
theorem d_K_change_10 : decode b_K_change 10 = .ok (.ireturn, 1) := by decide +kernel
theorem d_K_change_11 : decode b_K_change 11 = .ok (.aload_n 0, 1) := by decide +kernel
theorem d_K_change_12 : decode b_K_change 12 = .ok (.getfield 10, 3) := by decide +kernel
theorem d_K_change_15 : decode b_K_change 15 = .ok (.iload_n 1, 1) := by decide +kernel
theorem d_K_change_16 : decode b_K_change 16 = .ok (.iload_n 2, 1) := by decide +kernel
theorem d_K_change_17 : decode b_K_change 17 = .ok (.iload_n 3, 1) := by decide +kernel
theorem d_K_change_18 : decode b_K_change 18 = .ok (.invokestatic 48, 3) := by decide +kernel
theorem d_K_change_21 : decode b_K_change 21 = .ok (.iload 4, 2) := by decide +kernel
theorem d_K_change_23 : decode b_K_change 23 = .ok (.invokevirtual 52, 3) := by decide +kernel
theorem d_K_change_26 : decode b_K_change 26 = .ok (.ifCond .eq 7, 3) := by decide +kernel
theorem d_K_change_29 : decode b_K_change 29 = .ok (.iconst 0, 1) := by decide +kernel
theorem d_K_change_30 : decode b_K_change 30 = .ok (.goto 4, 3) := by decide +kernel
theorem d_K_change_33 : decode b_K_change 33 = .ok (.iconst (-1), 1) := by decide +kernel
theorem d_K_change_34 : decode b_K_change 34 = .ok (.ireturn, 1) := by decide +kernel
theorem d_K_back_0 : decode b_K_back 0 = .ok (.aload_n 0, 1) := by decide +kernel
theorem d_K_back_1 : decode b_K_back 1 = .ok (.getfield 10, 3) := by decide +kernel
theorem d_K_back_4 : decode b_K_back 4 = .ok (.invokevirtual 56, 3) := by decide +kernel
theorem d_K_back_7 : decode b_K_back 7 = .ok (.ifCond .eq 13, 3) := by decide +kernel
theorem d_K_back_10 : decode b_K_back 10 = .ok (.aload_n 0, 1) := by decide +kernel
theorem d_K_back_11 : decode b_K_back 11 = .ok (.getfield 10, 3) := by decide +kernel
theorem d_K_back_14 : decode b_K_back 14 = .ok (.invokevirtual 60, 3) := by decide +kernel
theorem d_K_back_17 : decode b_K_back 17 = .ok (.goto 4, 3) := by decide +kernel
theorem d_K_back_20 : decode b_K_back 20 = .ok (.iconst (-1), 1) := by decide +kernel
theorem d_K_back_21 : decode b_K_back 21 = .ok (.ireturn, 1) := by decide +kernel
theorem d_K_sign_0 : decode b_K_sign 0 = .ok (.iload_n 1, 1) := by decide +kernel
theorem d_K_sign_1 : decode b_K_sign 1 = .ok (.bipush 33, 2) := by decide +kernel
theorem d_K_sign_3 : decode b_K_sign 3 = .ok (.if_icmp .lt 9, 3) := by decide +kernel
theorem d_K_sign_6 : decode b_K_sign 6 = .ok (.iload_n 1, 1) := by decide +kernel
theorem d_K_sign_7 : decode b_K_sign 7 = .ok (.bipush 126, 2) := by decide +kernel
theorem d_K_sign_9 : decode b_K_sign 9 = .ok (.if_icmp .le 5, 3) := by decide +kernel
theorem d_K_sign_12 : decode b_K_sign 12 = .ok (.iconst (-1), 1) := by decide +kernel
theorem d_K_sign_13 : decode b_K_sign 13 = .ok (.ireturn, 1) := by decide +kernel
theorem d_K_sign_14 : decode b_K_sign 14 = .ok (.aload_n 0, 1) := by decide +kernel
theorem d_K_sign_15 : decode b_K_sign 15 = .ok (.getfield 19, 3) := by decide +kernel
theorem d_K_sign_18 : decode b_K_sign 18 = .ok (.iload_n 1, 1) := by decide +kernel
theorem d_K_sign_19 : decode b_K_sign 19 = .ok (.i2c, 1) := by decide +kernel
theorem d_K_sign_20 : decode b_K_sign 20 = .ok (.invokevirtual 64, 3) := by decide +kernel
theorem d_K_sign_23 : decode b_K_sign 23 = .ok (.ifCond .eq 13, 3) := by decide +kernel
theorem d_K_sign_26 : decode b_K_sign 26 = .ok (.aload_n 0, 1) := by decide +kernel
theorem d_K_sign_27 : decode b_K_sign 27 = .ok (.getfield 19, 3) := by decide +kernel
theorem d_K_sign_30 : decode b_K_sign 30 = .ok (.invokevirtual 68, 3) := by decide +kernel
theorem d_K_sign_33 : decode b_K_sign 33 = .ok (.goto 4, 3) := by decide +kernel
theorem d_K_sign_36 : decode b_K_sign 36 = .ok (.iconst (-1), 1) := by decide +kernel
theorem d_K_sign_37 : decode b_K_sign 37 = .ok (.ireturn, 1) := by decide +kernel
theorem d_K_clear_0 : decode b_K_clear 0 = .ok (.aload_n 0, 1) := by decide +kernel
theorem d_K_clear_1 : decode b_K_clear 1 = .ok (.getfield 19, 3) := by decide +kernel
theorem d_K_clear_4 : decode b_K_clear 4 = .ok (.invokevirtual 71, 3) := by decide +kernel
theorem d_K_clear_7 : decode b_K_clear 7 = .ok (.iconst 0, 1) := by decide +kernel
theorem d_K_clear_8 : decode b_K_clear 8 = .ok (.ireturn, 1) := by decide +kernel
theorem d_K_define_0 : decode b_K_define 0 = .ok (.iload_n 1, 1) := by decide +kernel
theorem d_K_define_1 : decode b_K_define 1 = .ok (.invokestatic 74, 3) := by decide +kernel
theorem d_K_define_4 : decode b_K_define 4 = .ok (.ifCond .ne 5, 3) := by decide +kernel
theorem d_K_define_7 : decode b_K_define 7 = .ok (.iconst (-1), 1) := by decide +kernel
theorem d_K_define_8 : decode b_K_define 8 = .ok (.ireturn, 1) := by decide +kernel
theorem d_K_define_9 : decode b_K_define 9 = .ok (.aload_n 0, 1) := by decide +kernel
theorem d_K_define_10 : decode b_K_define 10 = .ok (.getfield 26, 3) := by decide +kernel
theorem d_K_define_13 : decode b_K_define 13 = .ok (.aload_n 0, 1) := by decide +kernel
theorem d_K_define_14 : decode b_K_define 14 = .ok (.getfield 19, 3) := by decide +kernel
theorem d_K_define_17 : decode b_K_define 17 = .ok (.invokevirtual 78, 3) := by decide +kernel
theorem d_K_define_20 : decode b_K_define 20 = .ok (.bipush (-2), 2) := by decide +kernel
theorem d_K_define_22 : decode b_K_define 22 = .ok (.if_icmp .eq 6, 3) := by decide +kernel
theorem d_K_define_25 : decode b_K_define 25 = .ok (.bipush (-2), 2) := by decide +kernel
theorem d_K_define_27 : decode b_K_define 27 = .ok (.ireturn, 1) := by decide +kernel
theorem d_K_define_28 : decode b_K_define 28 = .ok (.aload_n 0, 1) := by decide +kernel
theorem d_K_define_29 : decode b_K_define 29 = .ok (.getfield 33, 3) := by decide +kernel
theorem d_K_define_32 : decode b_K_define 32 = .ok (.aload_n 0, 1) := by decide +kernel
theorem d_K_define_33 : decode b_K_define 33 = .ok (.getfield 19, 3) := by decide +kernel
theorem d_K_define_36 : decode b_K_define 36 = .ok (.aload_n 0, 1) := by decide +kernel
theorem d_K_define_37 : decode b_K_define 37 = .ok (.getfield 26, 3) := by decide +kernel
theorem d_K_define_40 : decode b_K_define 40 = .ok (.invokevirtual 82, 3) := by decide +kernel
theorem d_K_define_43 : decode b_K_define 43 = .ok (.invokevirtual 85, 3) := by decide +kernel
theorem d_K_define_46 : decode b_K_define 46 = .ok (.ifCond .ne 6, 3) := by decide +kernel
theorem d_K_define_49 : decode b_K_define 49 = .ok (.bipush (-3), 2) := by decide +kernel
theorem d_K_define_51 : decode b_K_define 51 = .ok (.ireturn, 1) := by decide +kernel
theorem d_K_define_52 : decode b_K_define 52 = .ok (.aload_n 0, 1) := by decide +kernel
theorem d_K_define_53 : decode b_K_define 53 = .ok (.getfield 39, 3) := by decide +kernel
theorem d_K_define_56 : decode b_K_define 56 = .ok (.iload_n 1, 1) := by decide +kernel
theorem d_K_define_57 : decode b_K_define 57 = .ok (.aaload, 1) := by decide +kernel
theorem d_K_define_58 : decode b_K_define 58 = .ok (.aload_n 0, 1) := by decide +kernel
theorem d_K_define_59 : decode b_K_define 59 = .ok (.getfield 26, 3) := by decide +kernel
theorem d_K_define_62 : decode b_K_define 62 = .ok (.aload_n 0, 1) := by decide +kernel
theorem d_K_define_63 : decode b_K_define 63 = .ok (.getfield 33, 3) := by decide +kernel
theorem d_K_define_66 : decode b_K_define 66 = .ok (.invokevirtual 89, 3) := by decide +kernel
theorem d_K_define_69 : decode b_K_define 69 = .ok (.invokevirtual 93, 3) := by decide +kernel
theorem d_K_define_72 : decode b_K_define 72 = .ok (.aload_n 0, 1) := by decide +kernel
theorem d_K_define_73 : decode b_K_define 73 = .ok (.getfield 39, 3) := by decide +kernel
theorem d_K_define_76 : decode b_K_define 76 = .ok (.iload_n 1, 1) := by decide +kernel
theorem d_K_define_77 : decode b_K_define 77 = .ok (.aaload, 1) := by decide +kernel
theorem d_K_define_78 : decode b_K_define 78 = .ok (.invokevirtual 97, 3) := by decide +kernel
theorem d_K_define_81 : decode b_K_define 81 = .ok (.ireturn, 1) := by decide +kernel
theorem d_K_fault_0 : decode b_K_fault 0 = .ok (.aload_n 0, 1) := by decide +kernel
theorem d_K_fault_1 : decode b_K_fault 1 = .ok (.getfield 26, 3) := by decide +kernel
theorem d_K_fault_4 : decode b_K_fault 4 = .ok (.aload_n 0, 1) := by decide +kernel
theorem d_K_fault_5 : decode b_K_fault 5 = .ok (.getfield 19, 3) := by decide +kernel
theorem d_K_fault_8 : decode b_K_fault 8 = .ok (.invokevirtual 78, 3) := by decide +kernel
theorem d_K_fault_11 : decode b_K_fault 11 = .ok (.ireturn, 1) := by decide +kernel
theorem d_K_drop_0 : decode b_K_drop 0 = .ok (.aload_n 0, 1) := by decide +kernel
theorem d_K_drop_1 : decode b_K_drop 1 = .ok (.iload_n 1, 1) := by decide +kernel
theorem d_K_drop_2 : decode b_K_drop 2 = .ok (.invokevirtual 100, 3) := by decide +kernel
theorem d_K_drop_5 : decode b_K_drop 5 = .ok (.ifCond .ne 5, 3) := by decide +kernel
theorem d_K_drop_8 : decode b_K_drop 8 = .ok (.iconst (-1), 1) := by decide +kernel
theorem d_K_drop_9 : decode b_K_drop 9 = .ok (.ireturn, 1) := by decide +kernel
theorem d_K_drop_10 : decode b_K_drop 10 = .ok (.aload_n 0, 1) := by decide +kernel
theorem d_K_drop_11 : decode b_K_drop 11 = .ok (.getfield 39, 3) := by decide +kernel
theorem d_K_drop_14 : decode b_K_drop 14 = .ok (.iload_n 1, 1) := by decide +kernel
theorem d_K_drop_15 : decode b_K_drop 15 = .ok (.aaload, 1) := by decide +kernel
theorem d_K_drop_16 : decode b_K_drop 16 = .ok (.invokevirtual 103, 3) := by decide +kernel
theorem d_K_drop_19 : decode b_K_drop 19 = .ok (.iconst 0, 1) := by decide +kernel
theorem d_K_drop_20 : decode b_K_drop 20 = .ok (.ireturn, 1) := by decide +kernel
theorem d_K_answer_0 : decode b_K_answer 0 = .ok (.aload_n 0, 1) := by decide +kernel
theorem d_K_answer_1 : decode b_K_answer 1 = .ok (.iload_n 1, 1) := by decide +kernel
theorem d_K_answer_2 : decode b_K_answer 2 = .ok (.invokevirtual 100, 3) := by decide +kernel
theorem d_K_answer_5 : decode b_K_answer 5 = .ok (.ifCond .eq 10, 3) := by decide +kernel
theorem d_K_answer_8 : decode b_K_answer 8 = .ok (.iload_n 2, 1) := by decide +kernel
theorem d_K_answer_9 : decode b_K_answer 9 = .ok (.invokestatic 106, 3) := by decide +kernel
theorem d_K_answer_12 : decode b_K_answer 12 = .ok (.ifCond .ne 7, 3) := by decide +kernel
theorem d_K_answer_15 : decode b_K_answer 15 = .ok (.ldc2_w 109, 3) := by decide +kernel
theorem d_K_answer_18 : decode b_K_answer 18 = .ok (.lreturn, 1) := by decide +kernel
theorem d_K_answer_19 : decode b_K_answer 19 = .ok (.aload_n 0, 1) := by decide +kernel
theorem d_K_answer_20 : decode b_K_answer 20 = .ok (.getfield 39, 3) := by decide +kernel
theorem d_K_answer_23 : decode b_K_answer 23 = .ok (.iload_n 1, 1) := by decide +kernel
theorem d_K_answer_24 : decode b_K_answer 24 = .ok (.aaload, 1) := by decide +kernel
theorem d_K_answer_25 : decode b_K_answer 25 = .ok (.aload_n 0, 1) := by decide +kernel
theorem d_K_answer_26 : decode b_K_answer 26 = .ok (.getfield 10, 3) := by decide +kernel
theorem d_K_answer_29 : decode b_K_answer 29 = .ok (.iload_n 2, 1) := by decide +kernel
theorem d_K_answer_30 : decode b_K_answer 30 = .ok (.invokevirtual 111, 3) := by decide +kernel
theorem d_K_answer_33 : decode b_K_answer 33 = .ok (.lreturn, 1) := by decide +kernel
theorem d_K_total_0 : decode b_K_total 0 = .ok (.aload_n 0, 1) := by decide +kernel
theorem d_K_total_1 : decode b_K_total 1 = .ok (.iload_n 1, 1) := by decide +kernel
theorem d_K_total_2 : decode b_K_total 2 = .ok (.invokevirtual 100, 3) := by decide +kernel
theorem d_K_total_5 : decode b_K_total 5 = .ok (.ifCond .ne 7, 3) := by decide +kernel
theorem d_K_total_8 : decode b_K_total 8 = .ok (.ldc2_w 109, 3) := by decide +kernel
theorem d_K_total_11 : decode b_K_total 11 = .ok (.lreturn, 1) := by decide +kernel
theorem d_K_total_12 : decode b_K_total 12 = .ok (.aload_n 0, 1) := by decide +kernel
theorem d_K_total_13 : decode b_K_total 13 = .ok (.getfield 39, 3) := by decide +kernel
theorem d_K_total_16 : decode b_K_total 16 = .ok (.iload_n 1, 1) := by decide +kernel
theorem d_K_total_17 : decode b_K_total 17 = .ok (.aaload, 1) := by decide +kernel
theorem d_K_total_18 : decode b_K_total 18 = .ok (.aload_n 0, 1) := by decide +kernel
theorem d_K_total_19 : decode b_K_total 19 = .ok (.getfield 10, 3) := by decide +kernel
theorem d_K_total_22 : decode b_K_total 22 = .ok (.iconst (-1), 1) := by decide +kernel
theorem d_K_total_23 : decode b_K_total 23 = .ok (.invokevirtual 115, 3) := by decide +kernel
theorem d_K_total_26 : decode b_K_total 26 = .ok (.lreturn, 1) := by decide +kernel
theorem d_K_count_0 : decode b_K_count 0 = .ok (.iload_n 1, 1) := by decide +kernel
theorem d_K_count_1 : decode b_K_count 1 = .ok (.iload_n 2, 1) := by decide +kernel
theorem d_K_count_2 : decode b_K_count 2 = .ok (.iload_n 3, 1) := by decide +kernel
theorem d_K_count_3 : decode b_K_count 3 = .ok (.invokestatic 44, 3) := by decide +kernel
theorem d_K_count_6 : decode b_K_count 6 = .ok (.ifCond .ne 7, 3) := by decide +kernel
theorem d_K_count_9 : decode b_K_count 9 = .ok (.ldc2_w 109, 3) := by decide +kernel
theorem d_K_count_12 : decode b_K_count 12 = .ok (.lreturn, 1) := by decide +kernel
theorem d_K_count_13 : decode b_K_count 13 = .ok (.aload_n 0, 1) := by decide +kernel
theorem d_K_count_14 : decode b_K_count 14 = .ok (.getfield 10, 3) := by decide +kernel
theorem d_K_count_17 : decode b_K_count 17 = .ok (.iload_n 1, 1) := by decide +kernel
theorem d_K_count_18 : decode b_K_count 18 = .ok (.iload_n 2, 1) := by decide +kernel
theorem d_K_count_19 : decode b_K_count 19 = .ok (.iload_n 3, 1) := by decide +kernel
theorem d_K_count_20 : decode b_K_count 20 = .ok (.invokestatic 48, 3) := by decide +kernel
theorem d_K_count_23 : decode b_K_count 23 = .ok (.invokevirtual 118, 3) := by decide +kernel
theorem d_K_count_26 : decode b_K_count 26 = .ok (.i2l, 1) := by decide +kernel
theorem d_K_count_27 : decode b_K_count 27 = .ok (.lreturn, 1) := by decide +kernel
theorem d_K_question_0 : decode b_K_question 0 = .ok (.iload_n 1, 1) := by decide +kernel
theorem d_K_question_1 : decode b_K_question 1 = .ok (.invokestatic 74, 3) := by decide +kernel
theorem d_K_question_4 : decode b_K_question 4 = .ok (.ifCond .ne 5, 3) := by decide +kernel
theorem d_K_question_7 : decode b_K_question 7 = .ok (.iconst (-1), 1) := by decide +kernel
theorem d_K_question_8 : decode b_K_question 8 = .ok (.ireturn, 1) := by decide +kernel
theorem d_K_question_9 : decode b_K_question 9 = .ok (.aload_n 0, 1) := by decide +kernel
theorem d_K_question_10 : decode b_K_question 10 = .ok (.getfield 39, 3) := by decide +kernel
theorem d_K_question_13 : decode b_K_question 13 = .ok (.iload_n 1, 1) := by decide +kernel
theorem d_K_question_14 : decode b_K_question 14 = .ok (.aaload, 1) := by decide +kernel
theorem d_K_question_15 : decode b_K_question 15 = .ok (.astore_n 3, 1) := by decide +kernel
theorem d_K_question_16 : decode b_K_question 16 = .ok (.iload_n 2, 1) := by decide +kernel
theorem d_K_question_17 : decode b_K_question 17 = .ok (.ifCond .ne 16, 3) := by decide +kernel
theorem d_K_question_20 : decode b_K_question 20 = .ok (.aload_n 3, 1) := by decide +kernel
theorem d_K_question_21 : decode b_K_question 21 = .ok (.invokevirtual 122, 3) := by decide +kernel
theorem d_K_question_24 : decode b_K_question 24 = .ok (.ifCond .eq 7, 3) := by decide +kernel
theorem d_K_question_27 : decode b_K_question 27 = .ok (.iconst 1, 1) := by decide +kernel
theorem d_K_question_28 : decode b_K_question 28 = .ok (.goto 4, 3) := by decide +kernel
theorem d_K_question_31 : decode b_K_question 31 = .ok (.iconst 0, 1) := by decide +kernel
theorem d_K_question_32 : decode b_K_question 32 = .ok (.ireturn, 1) := by decide +kernel
theorem d_K_question_33 : decode b_K_question 33 = .ok (.aload_n 3, 1) := by decide +kernel
theorem d_K_question_34 : decode b_K_question 34 = .ok (.invokevirtual 122, 3) := by decide +kernel
theorem d_K_question_37 : decode b_K_question 37 = .ok (.ifCond .ne 5, 3) := by decide +kernel
theorem d_K_question_40 : decode b_K_question 40 = .ok (.iconst (-1), 1) := by decide +kernel
theorem d_K_question_41 : decode b_K_question 41 = .ok (.ireturn, 1) := by decide +kernel
theorem d_K_question_42 : decode b_K_question 42 = .ok (.iload_n 2, 1) := by decide +kernel
theorem d_K_question_43 : decode b_K_question 43 = .ok (.tableswitch 49 1 4 #[29, 34, 39, 44], 29) := by decide +kernel
theorem d_K_question_72 : decode b_K_question 72 = .ok (.aload_n 3, 1) := by decide +kernel
theorem d_K_question_73 : decode b_K_question 73 = .ok (.invokevirtual 97, 3) := by decide +kernel
theorem d_K_question_76 : decode b_K_question 76 = .ok (.ireturn, 1) := by decide +kernel
theorem d_K_question_77 : decode b_K_question 77 = .ok (.aload_n 3, 1) := by decide +kernel
theorem d_K_question_78 : decode b_K_question 78 = .ok (.invokevirtual 125, 3) := by decide +kernel
theorem d_K_question_81 : decode b_K_question 81 = .ok (.ireturn, 1) := by decide +kernel
theorem d_K_question_82 : decode b_K_question 82 = .ok (.aload_n 3, 1) := by decide +kernel
theorem d_K_question_83 : decode b_K_question 83 = .ok (.invokevirtual 128, 3) := by decide +kernel
theorem d_K_question_86 : decode b_K_question 86 = .ok (.ireturn, 1) := by decide +kernel
theorem d_K_question_87 : decode b_K_question 87 = .ok (.aload_n 3, 1) := by decide +kernel
theorem d_K_question_88 : decode b_K_question 88 = .ok (.invokevirtual 131, 3) := by decide +kernel
theorem d_K_question_91 : decode b_K_question 91 = .ok (.ireturn, 1) := by decide +kernel
theorem d_K_question_92 : decode b_K_question 92 = .ok (.iconst (-1), 1) := by decide +kernel
theorem d_K_question_93 : decode b_K_question 93 = .ok (.ireturn, 1) := by decide +kernel
theorem d_K_state_0 : decode b_K_state 0 = .ok (.iload_n 1, 1) := by decide +kernel
theorem d_K_state_1 : decode b_K_state 1 = .ok (.tableswitch 51 0 2 #[27, 35, 43], 27) := by decide +kernel
theorem d_K_state_28 : decode b_K_state 28 = .ok (.aload_n 0, 1) := by decide +kernel
theorem d_K_state_29 : decode b_K_state 29 = .ok (.getfield 19, 3) := by decide +kernel
theorem d_K_state_32 : decode b_K_state 32 = .ok (.invokevirtual 68, 3) := by decide +kernel
theorem d_K_state_35 : decode b_K_state 35 = .ok (.ireturn, 1) := by decide +kernel
theorem d_K_state_36 : decode b_K_state 36 = .ok (.aload_n 0, 1) := by decide +kernel
theorem d_K_state_37 : decode b_K_state 37 = .ok (.getfield 10, 3) := by decide +kernel
theorem d_K_state_40 : decode b_K_state 40 = .ok (.invokevirtual 60, 3) := by decide +kernel
theorem d_K_state_43 : decode b_K_state 43 = .ok (.ireturn, 1) := by decide +kernel
theorem d_K_state_44 : decode b_K_state 44 = .ok (.aload_n 0, 1) := by decide +kernel
theorem d_K_state_45 : decode b_K_state 45 = .ok (.getfield 10, 3) := by decide +kernel
theorem d_K_state_48 : decode b_K_state 48 = .ok (.invokevirtual 134, 3) := by decide +kernel
theorem d_K_state_51 : decode b_K_state 51 = .ok (.ireturn, 1) := by decide +kernel
theorem d_K_state_52 : decode b_K_state 52 = .ok (.iconst (-1), 1) := by decide +kernel
theorem d_K_state_53 : decode b_K_state 53 = .ok (.ireturn, 1) := by decide +kernel
theorem d_K_isRow_0 : decode b_K_isRow 0 = .ok (.iload_n 0, 1) := by decide +kernel
theorem d_K_isRow_1 : decode b_K_isRow 1 = .ok (.ifCond .lt 26, 3) := by decide +kernel
theorem d_K_isRow_4 : decode b_K_isRow 4 = .ok (.iload_n 0, 1) := by decide +kernel
theorem d_K_isRow_5 : decode b_K_isRow 5 = .ok (.iconst 3, 1) := by decide +kernel
theorem d_K_isRow_6 : decode b_K_isRow 6 = .ok (.if_icmp .ge 21, 3) := by decide +kernel
theorem d_K_isRow_9 : decode b_K_isRow 9 = .ok (.iload_n 1, 1) := by decide +kernel
theorem d_K_isRow_10 : decode b_K_isRow 10 = .ok (.invokestatic 106, 3) := by decide +kernel
theorem d_K_isRow_13 : decode b_K_isRow 13 = .ok (.ifCond .eq 14, 3) := by decide +kernel
theorem d_K_isRow_16 : decode b_K_isRow 16 = .ok (.iload_n 2, 1) := by decide +kernel
theorem d_K_isRow_17 : decode b_K_isRow 17 = .ok (.invokestatic 106, 3) := by decide +kernel
theorem d_K_isRow_20 : decode b_K_isRow 20 = .ok (.ifCond .eq 7, 3) := by decide +kernel
theorem d_K_isRow_23 : decode b_K_isRow 23 = .ok (.iconst 1, 1) := by decide +kernel
theorem d_K_isRow_24 : decode b_K_isRow 24 = .ok (.goto 4, 3) := by decide +kernel
theorem d_K_isRow_27 : decode b_K_isRow 27 = .ok (.iconst 0, 1) := by decide +kernel
theorem d_K_isRow_28 : decode b_K_isRow 28 = .ok (.ireturn, 1) := by decide +kernel
theorem d_K_isValue_0 : decode b_K_isValue 0 = .ok (.iload_n 0, 1) := by decide +kernel
theorem d_K_isValue_1 : decode b_K_isValue 1 = .ok (.ifCond .lt 13, 3) := by decide +kernel
theorem d_K_isValue_4 : decode b_K_isValue 4 = .ok (.iload_n 0, 1) := by decide +kernel
theorem d_K_isValue_5 : decode b_K_isValue 5 = .ok (.bipush 6, 2) := by decide +kernel
theorem d_K_isValue_7 : decode b_K_isValue 7 = .ok (.if_icmp .ge 7, 3) := by decide +kernel
theorem d_K_isValue_10 : decode b_K_isValue 10 = .ok (.iconst 1, 1) := by decide +kernel
theorem d_K_isValue_11 : decode b_K_isValue 11 = .ok (.goto 4, 3) := by decide +kernel
theorem d_K_isValue_14 : decode b_K_isValue 14 = .ok (.iconst 0, 1) := by decide +kernel
theorem d_K_isValue_15 : decode b_K_isValue 15 = .ok (.ireturn, 1) := by decide +kernel
theorem d_K_isQuestion_0 : decode b_K_isQuestion 0 = .ok (.iload_n 0, 1) := by decide +kernel
theorem d_K_isQuestion_1 : decode b_K_isQuestion 1 = .ok (.ifCond .lt 12, 3) := by decide +kernel
theorem d_K_isQuestion_4 : decode b_K_isQuestion 4 = .ok (.iload_n 0, 1) := by decide +kernel
theorem d_K_isQuestion_5 : decode b_K_isQuestion 5 = .ok (.iconst 4, 1) := by decide +kernel
theorem d_K_isQuestion_6 : decode b_K_isQuestion 6 = .ok (.if_icmp .ge 7, 3) := by decide +kernel
theorem d_K_isQuestion_9 : decode b_K_isQuestion 9 = .ok (.iconst 1, 1) := by decide +kernel
theorem d_K_isQuestion_10 : decode b_K_isQuestion 10 = .ok (.goto 4, 3) := by decide +kernel
theorem d_K_isQuestion_13 : decode b_K_isQuestion 13 = .ok (.iconst 0, 1) := by decide +kernel
theorem d_K_isQuestion_14 : decode b_K_isQuestion 14 = .ok (.ireturn, 1) := by decide +kernel
theorem d_K_isAskable_0 : decode b_K_isAskable 0 = .ok (.iload_n 1, 1) := by decide +kernel
theorem d_K_isAskable_1 : decode b_K_isAskable 1 = .ok (.invokestatic 74, 3) := by decide +kernel
theorem d_K_isAskable_4 : decode b_K_isAskable 4 = .ok (.ifCond .eq 19, 3) := by decide +kernel
theorem d_K_isAskable_7 : decode b_K_isAskable 7 = .ok (.aload_n 0, 1) := by decide +kernel
theorem d_K_isAskable_8 : decode b_K_isAskable 8 = .ok (.getfield 39, 3) := by decide +kernel
theorem d_K_isAskable_11 : decode b_K_isAskable 11 = .ok (.iload_n 1, 1) := by decide +kernel
theorem d_K_isAskable_12 : decode b_K_isAskable 12 = .ok (.aaload, 1) := by decide +kernel
theorem d_K_isAskable_13 : decode b_K_isAskable 13 = .ok (.invokevirtual 122, 3) := by decide +kernel
theorem d_K_isAskable_16 : decode b_K_isAskable 16 = .ok (.ifCond .eq 7, 3) := by decide +kernel
theorem d_K_isAskable_19 : decode b_K_isAskable 19 = .ok (.iconst 1, 1) := by decide +kernel
theorem d_K_isAskable_20 : decode b_K_isAskable 20 = .ok (.goto 4, 3) := by decide +kernel
theorem d_K_isAskable_23 : decode b_K_isAskable 23 = .ok (.iconst 0, 1) := by decide +kernel
theorem d_K_isAskable_24 : decode b_K_isAskable 24 = .ok (.ireturn, 1) := by decide +kernel
theorem d_E_init_0 : decode b_E_init 0 = .ok (.aload_n 0, 1) := by decide +kernel
theorem d_E_init_1 : decode b_E_init 1 = .ok (.invokespecial 3, 3) := by decide +kernel
theorem d_E_init_4 : decode b_E_init 4 = .ok (.aload_n 0, 1) := by decide +kernel
theorem d_E_init_5 : decode b_E_init 5 = .ok (.bipush 9, 2) := by decide +kernel
theorem d_E_init_7 : decode b_E_init 7 = .ok (.anewarray 11, 3) := by decide +kernel
theorem d_E_init_10 : decode b_E_init 10 = .ok (.putfield 13, 3) := by decide +kernel
theorem d_E_init_13 : decode b_E_init 13 = .ok (.aload_n 0, 1) := by decide +kernel
theorem d_E_init_14 : decode b_E_init 14 = .ok (.bipush 9, 2) := by decide +kernel
theorem d_E_init_16 : decode b_E_init 16 = .ok (.anewarray 11, 3) := by decide +kernel
theorem d_E_init_19 : decode b_E_init 19 = .ok (.putfield 17, 3) := by decide +kernel
theorem d_E_init_22 : decode b_E_init 22 = .ok (.aload_n 0, 1) := by decide +kernel
theorem d_E_init_23 : decode b_E_init 23 = .ok (.bipush 9, 2) := by decide +kernel
theorem d_E_init_25 : decode b_E_init 25 = .ok (.anewarray 11, 3) := by decide +kernel
theorem d_E_init_28 : decode b_E_init 28 = .ok (.putfield 20, 3) := by decide +kernel
theorem d_E_init_31 : decode b_E_init 31 = .ok (.aload_n 0, 1) := by decide +kernel
theorem d_E_init_32 : decode b_E_init 32 = .ok (.new 11, 3) := by decide +kernel
theorem d_E_init_35 : decode b_E_init 35 = .ok (.dup, 1) := by decide +kernel
theorem d_E_init_36 : decode b_E_init 36 = .ok (.invokespecial 23, 3) := by decide +kernel
theorem d_E_init_39 : decode b_E_init 39 = .ok (.putfield 24, 3) := by decide +kernel
theorem d_E_init_42 : decode b_E_init 42 = .ok (.iconst 0, 1) := by decide +kernel
theorem d_E_init_43 : decode b_E_init 43 = .ok (.istore_n 1, 1) := by decide +kernel
theorem d_E_init_44 : decode b_E_init 44 = .ok (.iload_n 1, 1) := by decide +kernel
theorem d_E_init_45 : decode b_E_init 45 = .ok (.bipush 9, 2) := by decide +kernel
theorem d_E_init_47 : decode b_E_init 47 = .ok (.if_icmp .ge 48, 3) := by decide +kernel
theorem d_E_init_50 : decode b_E_init 50 = .ok (.aload_n 0, 1) := by decide +kernel
theorem d_E_init_51 : decode b_E_init 51 = .ok (.getfield 13, 3) := by decide +kernel
theorem d_E_init_54 : decode b_E_init 54 = .ok (.iload_n 1, 1) := by decide +kernel
theorem d_E_init_55 : decode b_E_init 55 = .ok (.new 11, 3) := by decide +kernel
theorem d_E_init_58 : decode b_E_init 58 = .ok (.dup, 1) := by decide +kernel
theorem d_E_init_59 : decode b_E_init 59 = .ok (.invokespecial 23, 3) := by decide +kernel
theorem d_E_init_62 : decode b_E_init 62 = .ok (.aastore, 1) := by decide +kernel
theorem d_E_init_63 : decode b_E_init 63 = .ok (.aload_n 0, 1) := by decide +kernel
theorem d_E_init_64 : decode b_E_init 64 = .ok (.getfield 17, 3) := by decide +kernel
theorem d_E_init_67 : decode b_E_init 67 = .ok (.iload_n 1, 1) := by decide +kernel
theorem d_E_init_68 : decode b_E_init 68 = .ok (.new 11, 3) := by decide +kernel
theorem d_E_init_71 : decode b_E_init 71 = .ok (.dup, 1) := by decide +kernel
theorem d_E_init_72 : decode b_E_init 72 = .ok (.invokespecial 23, 3) := by decide +kernel
theorem d_E_init_75 : decode b_E_init 75 = .ok (.aastore, 1) := by decide +kernel
theorem d_E_init_76 : decode b_E_init 76 = .ok (.aload_n 0, 1) := by decide +kernel
theorem d_E_init_77 : decode b_E_init 77 = .ok (.getfield 20, 3) := by decide +kernel
theorem d_E_init_80 : decode b_E_init 80 = .ok (.iload_n 1, 1) := by decide +kernel
theorem d_E_init_81 : decode b_E_init 81 = .ok (.new 11, 3) := by decide +kernel
theorem d_E_init_84 : decode b_E_init 84 = .ok (.dup, 1) := by decide +kernel
theorem d_E_init_85 : decode b_E_init 85 = .ok (.invokespecial 23, 3) := by decide +kernel
theorem d_E_init_88 : decode b_E_init 88 = .ok (.aastore, 1) := by decide +kernel
theorem d_E_init_89 : decode b_E_init 89 = .ok (.iinc 1 1, 3) := by decide +kernel
theorem d_E_init_92 : decode b_E_init 92 = .ok (.goto (-48), 3) := by decide +kernel
theorem d_E_init_95 : decode b_E_init 95 = .ok (.return_, 1) := by decide +kernel
theorem d_E_evaluate_0 : decode b_E_evaluate 0 = .ok (.aload_n 0, 1) := by decide +kernel
theorem d_E_evaluate_1 : decode b_E_evaluate 1 = .ok (.iload_n 2, 1) := by decide +kernel
theorem d_E_evaluate_2 : decode b_E_evaluate 2 = .ok (.putfield 28, 3) := by decide +kernel
theorem d_E_evaluate_5 : decode b_E_evaluate 5 = .ok (.aload_n 0, 1) := by decide +kernel
theorem d_E_evaluate_6 : decode b_E_evaluate 6 = .ok (.aload_n 1, 1) := by decide +kernel
theorem d_E_evaluate_7 : decode b_E_evaluate 7 = .ok (.iconst 0, 1) := by decide +kernel
theorem d_E_evaluate_8 : decode b_E_evaluate 8 = .ok (.invokevirtual 32, 3) := by decide +kernel
theorem d_E_evaluate_11 : decode b_E_evaluate 11 = .ok (.ireturn, 1) := by decide +kernel
theorem d_E_result_0 : decode b_E_result 0 = .ok (.aload_n 0, 1) := by decide +kernel
theorem d_E_result_1 : decode b_E_result 1 = .ok (.getfield 13, 3) := by decide +kernel
theorem d_E_result_4 : decode b_E_result 4 = .ok (.iconst 0, 1) := by decide +kernel
theorem d_E_result_5 : decode b_E_result 5 = .ok (.aaload, 1) := by decide +kernel
theorem d_E_result_6 : decode b_E_result 6 = .ok (.areturn, 1) := by decide +kernel
theorem d_E_readSum_0 : decode b_E_readSum 0 = .ok (.iload_n 2, 1) := by decide +kernel
theorem d_E_readSum_1 : decode b_E_readSum 1 = .ok (.bipush 9, 2) := by decide +kernel
theorem d_E_readSum_3 : decode b_E_readSum 3 = .ok (.if_icmp .lt 5, 3) := by decide +kernel
theorem d_E_readSum_6 : decode b_E_readSum 6 = .ok (.iconst 0, 1) := by decide +kernel
theorem d_E_readSum_7 : decode b_E_readSum 7 = .ok (.ireturn, 1) := by decide +kernel
theorem d_E_readSum_8 : decode b_E_readSum 8 = .ok (.aload_n 0, 1) := by decide +kernel
theorem d_E_readSum_9 : decode b_E_readSum 9 = .ok (.getfield 13, 3) := by decide +kernel
theorem d_E_readSum_12 : decode b_E_readSum 12 = .ok (.iload_n 2, 1) := by decide +kernel
theorem d_E_readSum_13 : decode b_E_readSum 13 = .ok (.aaload, 1) := by decide +kernel
theorem d_E_readSum_14 : decode b_E_readSum 14 = .ok (.iconst 0, 1) := by decide +kernel
theorem d_E_readSum_15 : decode b_E_readSum 15 = .ok (.invokevirtual 36, 3) := by decide +kernel
theorem d_E_readSum_18 : decode b_E_readSum 18 = .ok (.iconst 1, 1) := by decide +kernel
theorem d_E_readSum_19 : decode b_E_readSum 19 = .ok (.istore_n 3, 1) := by decide +kernel
theorem d_E_readSum_20 : decode b_E_readSum 20 = .ok (.iconst 0, 1) := by decide +kernel
theorem d_E_readSum_21 : decode b_E_readSum 21 = .ok (.istore 4, 2) := by decide +kernel
theorem d_E_readSum_23 : decode b_E_readSum 23 = .ok (.iload 4, 2) := by decide +kernel
theorem d_E_readSum_25 : decode b_E_readSum 25 = .ok (.bipush 30, 2) := by decide +kernel
theorem d_E_readSum_27 : decode b_E_readSum 27 = .ok (.if_icmp .ge 88, 3) := by decide +kernel
theorem d_E_readSum_30 : decode b_E_readSum 30 = .ok (.aload_n 0, 1) := by decide +kernel
theorem d_E_readSum_31 : decode b_E_readSum 31 = .ok (.aload_n 1, 1) := by decide +kernel
theorem d_E_readSum_32 : decode b_E_readSum 32 = .ok (.iload_n 2, 1) := by decide +kernel
theorem d_E_readSum_33 : decode b_E_readSum 33 = .ok (.invokevirtual 42, 3) := by decide +kernel
theorem d_E_readSum_36 : decode b_E_readSum 36 = .ok (.ifCond .eq 22, 3) := by decide +kernel
theorem d_E_readSum_39 : decode b_E_readSum 39 = .ok (.aload_n 0, 1) := by decide +kernel
theorem d_E_readSum_40 : decode b_E_readSum 40 = .ok (.getfield 13, 3) := by decide +kernel
theorem d_E_readSum_43 : decode b_E_readSum 43 = .ok (.iload_n 2, 1) := by decide +kernel
theorem d_E_readSum_44 : decode b_E_readSum 44 = .ok (.aaload, 1) := by decide +kernel
theorem d_E_readSum_45 : decode b_E_readSum 45 = .ok (.aload_n 0, 1) := by decide +kernel
theorem d_E_readSum_46 : decode b_E_readSum 46 = .ok (.getfield 17, 3) := by decide +kernel
theorem d_E_readSum_49 : decode b_E_readSum 49 = .ok (.iload_n 2, 1) := by decide +kernel
theorem d_E_readSum_50 : decode b_E_readSum 50 = .ok (.aaload, 1) := by decide +kernel
theorem d_E_readSum_51 : decode b_E_readSum 51 = .ok (.iload_n 3, 1) := by decide +kernel
theorem d_E_readSum_52 : decode b_E_readSum 52 = .ok (.invokevirtual 45, 3) := by decide +kernel
theorem d_E_readSum_55 : decode b_E_readSum 55 = .ok (.ifCond .ne 5, 3) := by decide +kernel
theorem d_E_readSum_58 : decode b_E_readSum 58 = .ok (.iconst 0, 1) := by decide +kernel
theorem d_E_readSum_59 : decode b_E_readSum 59 = .ok (.ireturn, 1) := by decide +kernel
theorem d_E_readSum_60 : decode b_E_readSum 60 = .ok (.aload_n 1, 1) := by decide +kernel
theorem d_E_readSum_61 : decode b_E_readSum 61 = .ok (.aload_n 0, 1) := by decide +kernel
theorem d_E_readSum_62 : decode b_E_readSum 62 = .ok (.getfield 28, 3) := by decide +kernel
theorem d_E_readSum_65 : decode b_E_readSum 65 = .ok (.invokevirtual 49, 3) := by decide +kernel
theorem d_E_readSum_68 : decode b_E_readSum 68 = .ok (.istore 5, 2) := by decide +kernel
theorem d_E_readSum_70 : decode b_E_readSum 70 = .ok (.iload 5, 2) := by decide +kernel
theorem d_E_readSum_72 : decode b_E_readSum 72 = .ok (.bipush 43, 2) := by decide +kernel
theorem d_E_readSum_74 : decode b_E_readSum 74 = .ok (.if_icmp .eq 12, 3) := by decide +kernel
theorem d_E_readSum_77 : decode b_E_readSum 77 = .ok (.iload 5, 2) := by decide +kernel
theorem d_E_readSum_79 : decode b_E_readSum 79 = .ok (.bipush 45, 2) := by decide +kernel
theorem d_E_readSum_81 : decode b_E_readSum 81 = .ok (.if_icmp .eq 5, 3) := by decide +kernel
theorem d_E_readSum_84 : decode b_E_readSum 84 = .ok (.iconst 1, 1) := by decide +kernel
theorem d_E_readSum_85 : decode b_E_readSum 85 = .ok (.ireturn, 1) := by decide +kernel
theorem d_E_readSum_86 : decode b_E_readSum 86 = .ok (.iload 5, 2) := by decide +kernel
theorem d_E_readSum_88 : decode b_E_readSum 88 = .ok (.bipush 43, 2) := by decide +kernel
theorem d_E_readSum_90 : decode b_E_readSum 90 = .ok (.if_icmp .ne 7, 3) := by decide +kernel
theorem d_E_readSum_93 : decode b_E_readSum 93 = .ok (.iconst 1, 1) := by decide +kernel
theorem d_E_readSum_94 : decode b_E_readSum 94 = .ok (.goto 4, 3) := by decide +kernel
theorem d_E_readSum_97 : decode b_E_readSum 97 = .ok (.iconst (-1), 1) := by decide +kernel
theorem d_E_readSum_98 : decode b_E_readSum 98 = .ok (.istore_n 3, 1) := by decide +kernel
theorem d_E_readSum_99 : decode b_E_readSum 99 = .ok (.aload_n 0, 1) := by decide +kernel
theorem d_E_readSum_100 : decode b_E_readSum 100 = .ok (.dup, 1) := by decide +kernel
theorem d_E_readSum_101 : decode b_E_readSum 101 = .ok (.getfield 28, 3) := by decide +kernel
theorem d_E_readSum_104 : decode b_E_readSum 104 = .ok (.iconst 1, 1) := by decide +kernel
theorem d_E_readSum_105 : decode b_E_readSum 105 = .ok (.iadd, 1) := by decide +kernel
theorem d_E_readSum_106 : decode b_E_readSum 106 = .ok (.putfield 28, 3) := by decide +kernel
theorem d_E_readSum_109 : decode b_E_readSum 109 = .ok (.iinc 4 1, 3) := by decide +kernel
theorem d_E_readSum_112 : decode b_E_readSum 112 = .ok (.goto (-89), 3) := by decide +kernel
theorem d_E_readSum_115 : decode b_E_readSum 115 = .ok (.iconst 0, 1) := by decide +kernel
theorem d_E_readSum_116 : decode b_E_readSum 116 = .ok (.ireturn, 1) := by decide +kernel
theorem d_E_readProduct_0 : decode b_E_readProduct 0 = .ok (.aload_n 0, 1) := by decide +kernel
theorem d_E_readProduct_1 : decode b_E_readProduct 1 = .ok (.getfield 17, 3) := by decide +kernel
theorem d_E_readProduct_4 : decode b_E_readProduct 4 = .ok (.iload_n 2, 1) := by decide +kernel
theorem d_E_readProduct_5 : decode b_E_readProduct 5 = .ok (.aaload, 1) := by decide +kernel
theorem d_E_readProduct_6 : decode b_E_readProduct 6 = .ok (.iconst 1, 1) := by decide +kernel
theorem d_E_readProduct_7 : decode b_E_readProduct 7 = .ok (.invokevirtual 36, 3) := by decide +kernel
theorem d_E_readProduct_10 : decode b_E_readProduct 10 = .ok (.iconst 0, 1) := by decide +kernel
theorem d_E_readProduct_11 : decode b_E_readProduct 11 = .ok (.istore_n 3, 1) := by decide +kernel
theorem d_E_readProduct_12 : decode b_E_readProduct 12 = .ok (.iload_n 3, 1) := by decide +kernel
theorem d_E_readProduct_13 : decode b_E_readProduct 13 = .ok (.bipush 30, 2) := by decide +kernel
theorem d_E_readProduct_15 : decode b_E_readProduct 15 = .ok (.if_icmp .ge 80, 3) := by decide +kernel
theorem d_E_readProduct_18 : decode b_E_readProduct 18 = .ok (.aload_n 0, 1) := by decide +kernel
theorem d_E_readProduct_19 : decode b_E_readProduct 19 = .ok (.aload_n 1, 1) := by decide +kernel
theorem d_E_readProduct_20 : decode b_E_readProduct 20 = .ok (.iload_n 2, 1) := by decide +kernel
theorem d_E_readProduct_21 : decode b_E_readProduct 21 = .ok (.invokevirtual 53, 3) := by decide +kernel
theorem d_E_readProduct_24 : decode b_E_readProduct 24 = .ok (.ifCond .eq 25, 3) := by decide +kernel
theorem d_E_readProduct_27 : decode b_E_readProduct 27 = .ok (.aload_n 0, 1) := by decide +kernel
theorem d_E_readProduct_28 : decode b_E_readProduct 28 = .ok (.getfield 24, 3) := by decide +kernel
theorem d_E_readProduct_31 : decode b_E_readProduct 31 = .ok (.aload_n 0, 1) := by decide +kernel
theorem d_E_readProduct_32 : decode b_E_readProduct 32 = .ok (.getfield 17, 3) := by decide +kernel
theorem d_E_readProduct_35 : decode b_E_readProduct 35 = .ok (.iload_n 2, 1) := by decide +kernel
theorem d_E_readProduct_36 : decode b_E_readProduct 36 = .ok (.aaload, 1) := by decide +kernel
theorem d_E_readProduct_37 : decode b_E_readProduct 37 = .ok (.aload_n 0, 1) := by decide +kernel
theorem d_E_readProduct_38 : decode b_E_readProduct 38 = .ok (.getfield 20, 3) := by decide +kernel
theorem d_E_readProduct_41 : decode b_E_readProduct 41 = .ok (.iload_n 2, 1) := by decide +kernel
theorem d_E_readProduct_42 : decode b_E_readProduct 42 = .ok (.aaload, 1) := by decide +kernel
theorem d_E_readProduct_43 : decode b_E_readProduct 43 = .ok (.invokevirtual 56, 3) := by decide +kernel
theorem d_E_readProduct_46 : decode b_E_readProduct 46 = .ok (.ifCond .ne 5, 3) := by decide +kernel
theorem d_E_readProduct_49 : decode b_E_readProduct 49 = .ok (.iconst 0, 1) := by decide +kernel
theorem d_E_readProduct_50 : decode b_E_readProduct 50 = .ok (.ireturn, 1) := by decide +kernel
theorem d_E_readProduct_51 : decode b_E_readProduct 51 = .ok (.aload_n 0, 1) := by decide +kernel
theorem d_E_readProduct_52 : decode b_E_readProduct 52 = .ok (.getfield 17, 3) := by decide +kernel
theorem d_E_readProduct_55 : decode b_E_readProduct 55 = .ok (.iload_n 2, 1) := by decide +kernel
theorem d_E_readProduct_56 : decode b_E_readProduct 56 = .ok (.aaload, 1) := by decide +kernel
theorem d_E_readProduct_57 : decode b_E_readProduct 57 = .ok (.aload_n 0, 1) := by decide +kernel
theorem d_E_readProduct_58 : decode b_E_readProduct 58 = .ok (.getfield 24, 3) := by decide +kernel
theorem d_E_readProduct_61 : decode b_E_readProduct 61 = .ok (.invokevirtual 60, 3) := by decide +kernel
theorem d_E_readProduct_64 : decode b_E_readProduct 64 = .ok (.aload_n 1, 1) := by decide +kernel
theorem d_E_readProduct_65 : decode b_E_readProduct 65 = .ok (.aload_n 0, 1) := by decide +kernel
theorem d_E_readProduct_66 : decode b_E_readProduct 66 = .ok (.getfield 28, 3) := by decide +kernel
theorem d_E_readProduct_69 : decode b_E_readProduct 69 = .ok (.invokevirtual 49, 3) := by decide +kernel
theorem d_E_readProduct_72 : decode b_E_readProduct 72 = .ok (.bipush 42, 2) := by decide +kernel
theorem d_E_readProduct_74 : decode b_E_readProduct 74 = .ok (.if_icmp .eq 5, 3) := by decide +kernel
theorem d_E_readProduct_77 : decode b_E_readProduct 77 = .ok (.iconst 1, 1) := by decide +kernel
theorem d_E_readProduct_78 : decode b_E_readProduct 78 = .ok (.ireturn, 1) := by decide +kernel
theorem d_E_readProduct_79 : decode b_E_readProduct 79 = .ok (.aload_n 0, 1) := by decide +kernel
theorem d_E_readProduct_80 : decode b_E_readProduct 80 = .ok (.dup, 1) := by decide +kernel
theorem d_E_readProduct_81 : decode b_E_readProduct 81 = .ok (.getfield 28, 3) := by decide +kernel
theorem d_E_readProduct_84 : decode b_E_readProduct 84 = .ok (.iconst 1, 1) := by decide +kernel
theorem d_E_readProduct_85 : decode b_E_readProduct 85 = .ok (.iadd, 1) := by decide +kernel
theorem d_E_readProduct_86 : decode b_E_readProduct 86 = .ok (.putfield 28, 3) := by decide +kernel
theorem d_E_readProduct_89 : decode b_E_readProduct 89 = .ok (.iinc 3 1, 3) := by decide +kernel
theorem d_E_readProduct_92 : decode b_E_readProduct 92 = .ok (.goto (-80), 3) := by decide +kernel
theorem d_E_readProduct_95 : decode b_E_readProduct 95 = .ok (.iconst 0, 1) := by decide +kernel
theorem d_E_readProduct_96 : decode b_E_readProduct 96 = .ok (.ireturn, 1) := by decide +kernel
theorem d_E_readFactor_0 : decode b_E_readFactor 0 = .ok (.iload_n 2, 1) := by decide +kernel
theorem d_E_readFactor_1 : decode b_E_readFactor 1 = .ok (.bipush 9, 2) := by decide +kernel
theorem d_E_readFactor_3 : decode b_E_readFactor 3 = .ok (.if_icmp .lt 5, 3) := by decide +kernel
theorem d_E_readFactor_6 : decode b_E_readFactor 6 = .ok (.iconst 0, 1) := by decide +kernel
theorem d_E_readFactor_7 : decode b_E_readFactor 7 = .ok (.ireturn, 1) := by decide +kernel
theorem d_E_readFactor_8 : decode b_E_readFactor 8 = .ok (.aload_n 1, 1) := by decide +kernel
theorem d_E_readFactor_9 : decode b_E_readFactor 9 = .ok (.aload_n 0, 1) := by decide +kernel
theorem d_E_readFactor_10 : decode b_E_readFactor 10 = .ok (.getfield 28, 3) := by decide +kernel
theorem d_E_readFactor_13 : decode b_E_readFactor 13 = .ok (.invokevirtual 49, 3) := by decide +kernel
theorem d_E_readFactor_16 : decode b_E_readFactor 16 = .ok (.istore_n 3, 1) := by decide +kernel
theorem d_E_readFactor_17 : decode b_E_readFactor 17 = .ok (.aload_n 0, 1) := by decide +kernel
theorem d_E_readFactor_18 : decode b_E_readFactor 18 = .ok (.dup, 1) := by decide +kernel
theorem d_E_readFactor_19 : decode b_E_readFactor 19 = .ok (.getfield 28, 3) := by decide +kernel
theorem d_E_readFactor_22 : decode b_E_readFactor 22 = .ok (.iconst 1, 1) := by decide +kernel
theorem d_E_readFactor_23 : decode b_E_readFactor 23 = .ok (.iadd, 1) := by decide +kernel
theorem d_E_readFactor_24 : decode b_E_readFactor 24 = .ok (.putfield 28, 3) := by decide +kernel
theorem d_E_readFactor_27 : decode b_E_readFactor 27 = .ok (.iload_n 3, 1) := by decide +kernel
theorem d_E_readFactor_28 : decode b_E_readFactor 28 = .ok (.bipush 40, 2) := by decide +kernel
theorem d_E_readFactor_30 : decode b_E_readFactor 30 = .ok (.if_icmp .ne 10, 3) := by decide +kernel
theorem d_E_readFactor_33 : decode b_E_readFactor 33 = .ok (.aload_n 0, 1) := by decide +kernel
theorem d_E_readFactor_34 : decode b_E_readFactor 34 = .ok (.aload_n 1, 1) := by decide +kernel
theorem d_E_readFactor_35 : decode b_E_readFactor 35 = .ok (.iload_n 2, 1) := by decide +kernel
theorem d_E_readFactor_36 : decode b_E_readFactor 36 = .ok (.invokevirtual 64, 3) := by decide +kernel
theorem d_E_readFactor_39 : decode b_E_readFactor 39 = .ok (.ireturn, 1) := by decide +kernel
theorem d_E_readFactor_40 : decode b_E_readFactor 40 = .ok (.iload_n 3, 1) := by decide +kernel
theorem d_E_readFactor_41 : decode b_E_readFactor 41 = .ok (.bipush 45, 2) := by decide +kernel
theorem d_E_readFactor_43 : decode b_E_readFactor 43 = .ok (.if_icmp .ne 10, 3) := by decide +kernel
theorem d_E_readFactor_46 : decode b_E_readFactor 46 = .ok (.aload_n 0, 1) := by decide +kernel
theorem d_E_readFactor_47 : decode b_E_readFactor 47 = .ok (.aload_n 1, 1) := by decide +kernel
theorem d_E_readFactor_48 : decode b_E_readFactor 48 = .ok (.iload_n 2, 1) := by decide +kernel
theorem d_E_readFactor_49 : decode b_E_readFactor 49 = .ok (.invokevirtual 67, 3) := by decide +kernel
theorem d_E_readFactor_52 : decode b_E_readFactor 52 = .ok (.ireturn, 1) := by decide +kernel
theorem d_E_readFactor_53 : decode b_E_readFactor 53 = .ok (.iload_n 3, 1) := by decide +kernel
theorem d_E_readFactor_54 : decode b_E_readFactor 54 = .ok (.invokestatic 70, 3) := by decide +kernel
theorem d_E_readFactor_57 : decode b_E_readFactor 57 = .ok (.istore 4, 2) := by decide +kernel
theorem d_E_readFactor_59 : decode b_E_readFactor 59 = .ok (.iload 4, 2) := by decide +kernel
theorem d_E_readFactor_61 : decode b_E_readFactor 61 = .ok (.ifCond .lt 17, 3) := by decide +kernel
theorem d_E_readFactor_64 : decode b_E_readFactor 64 = .ok (.aload_n 0, 1) := by decide +kernel
theorem d_E_readFactor_65 : decode b_E_readFactor 65 = .ok (.getfield 20, 3) := by decide +kernel
theorem d_E_readFactor_68 : decode b_E_readFactor 68 = .ok (.iload_n 2, 1) := by decide +kernel
theorem d_E_readFactor_69 : decode b_E_readFactor 69 = .ok (.aaload, 1) := by decide +kernel
theorem d_E_readFactor_70 : decode b_E_readFactor 70 = .ok (.iload 4, 2) := by decide +kernel
theorem d_E_readFactor_72 : decode b_E_readFactor 72 = .ok (.invokevirtual 74, 3) := by decide +kernel
theorem d_E_readFactor_75 : decode b_E_readFactor 75 = .ok (.goto 16, 3) := by decide +kernel
theorem d_E_readFactor_78 : decode b_E_readFactor 78 = .ok (.aload_n 0, 1) := by decide +kernel
theorem d_E_readFactor_79 : decode b_E_readFactor 79 = .ok (.getfield 20, 3) := by decide +kernel
theorem d_E_readFactor_82 : decode b_E_readFactor 82 = .ok (.iload_n 2, 1) := by decide +kernel
theorem d_E_readFactor_83 : decode b_E_readFactor 83 = .ok (.aaload, 1) := by decide +kernel
theorem d_E_readFactor_84 : decode b_E_readFactor 84 = .ok (.iload_n 3, 1) := by decide +kernel
theorem d_E_readFactor_85 : decode b_E_readFactor 85 = .ok (.bipush 48, 2) := by decide +kernel
theorem d_E_readFactor_87 : decode b_E_readFactor 87 = .ok (.isub, 1) := by decide +kernel
theorem d_E_readFactor_88 : decode b_E_readFactor 88 = .ok (.invokevirtual 36, 3) := by decide +kernel
theorem d_E_readFactor_91 : decode b_E_readFactor 91 = .ok (.iconst 1, 1) := by decide +kernel
theorem d_E_readFactor_92 : decode b_E_readFactor 92 = .ok (.ireturn, 1) := by decide +kernel
theorem d_E_readRestOfBrackets_0 : decode b_E_readRestOfBrackets 0 = .ok (.aload_n 0, 1) := by decide +kernel
theorem d_E_readRestOfBrackets_1 : decode b_E_readRestOfBrackets 1 = .ok (.aload_n 1, 1) := by decide +kernel
theorem d_E_readRestOfBrackets_2 : decode b_E_readRestOfBrackets 2 = .ok (.iload_n 2, 1) := by decide +kernel
theorem d_E_readRestOfBrackets_3 : decode b_E_readRestOfBrackets 3 = .ok (.iconst 1, 1) := by decide +kernel
theorem d_E_readRestOfBrackets_4 : decode b_E_readRestOfBrackets 4 = .ok (.iadd, 1) := by decide +kernel
theorem d_E_readRestOfBrackets_5 : decode b_E_readRestOfBrackets 5 = .ok (.invokevirtual 32, 3) := by decide +kernel
theorem d_E_readRestOfBrackets_8 : decode b_E_readRestOfBrackets 8 = .ok (.ifCond .ne 5, 3) := by decide +kernel
theorem d_E_readRestOfBrackets_11 : decode b_E_readRestOfBrackets 11 = .ok (.iconst 0, 1) := by decide +kernel
theorem d_E_readRestOfBrackets_12 : decode b_E_readRestOfBrackets 12 = .ok (.ireturn, 1) := by decide +kernel
theorem d_E_readRestOfBrackets_13 : decode b_E_readRestOfBrackets 13 = .ok (.aload_n 0, 1) := by decide +kernel
theorem d_E_readRestOfBrackets_14 : decode b_E_readRestOfBrackets 14 = .ok (.dup, 1) := by decide +kernel
theorem d_E_readRestOfBrackets_15 : decode b_E_readRestOfBrackets 15 = .ok (.getfield 28, 3) := by decide +kernel
theorem d_E_readRestOfBrackets_18 : decode b_E_readRestOfBrackets 18 = .ok (.iconst 1, 1) := by decide +kernel
theorem d_E_readRestOfBrackets_19 : decode b_E_readRestOfBrackets 19 = .ok (.iadd, 1) := by decide +kernel
theorem d_E_readRestOfBrackets_20 : decode b_E_readRestOfBrackets 20 = .ok (.putfield 28, 3) := by decide +kernel
theorem d_E_readRestOfBrackets_23 : decode b_E_readRestOfBrackets 23 = .ok (.aload_n 0, 1) := by decide +kernel
theorem d_E_readRestOfBrackets_24 : decode b_E_readRestOfBrackets 24 = .ok (.getfield 20, 3) := by decide +kernel
theorem d_E_readRestOfBrackets_27 : decode b_E_readRestOfBrackets 27 = .ok (.iload_n 2, 1) := by decide +kernel
theorem d_E_readRestOfBrackets_28 : decode b_E_readRestOfBrackets 28 = .ok (.aaload, 1) := by decide +kernel
theorem d_E_readRestOfBrackets_29 : decode b_E_readRestOfBrackets 29 = .ok (.aload_n 0, 1) := by decide +kernel
theorem d_E_readRestOfBrackets_30 : decode b_E_readRestOfBrackets 30 = .ok (.getfield 13, 3) := by decide +kernel
theorem d_E_readRestOfBrackets_33 : decode b_E_readRestOfBrackets 33 = .ok (.iload_n 2, 1) := by decide +kernel
theorem d_E_readRestOfBrackets_34 : decode b_E_readRestOfBrackets 34 = .ok (.iconst 1, 1) := by decide +kernel
theorem d_E_readRestOfBrackets_35 : decode b_E_readRestOfBrackets 35 = .ok (.iadd, 1) := by decide +kernel
theorem d_E_readRestOfBrackets_36 : decode b_E_readRestOfBrackets 36 = .ok (.aaload, 1) := by decide +kernel
theorem d_E_readRestOfBrackets_37 : decode b_E_readRestOfBrackets 37 = .ok (.invokevirtual 60, 3) := by decide +kernel
theorem d_E_readRestOfBrackets_40 : decode b_E_readRestOfBrackets 40 = .ok (.iconst 1, 1) := by decide +kernel
theorem d_E_readRestOfBrackets_41 : decode b_E_readRestOfBrackets 41 = .ok (.ireturn, 1) := by decide +kernel
theorem d_E_readRestOfNegative_0 : decode b_E_readRestOfNegative 0 = .ok (.aload_n 0, 1) := by decide +kernel
theorem d_E_readRestOfNegative_1 : decode b_E_readRestOfNegative 1 = .ok (.aload_n 1, 1) := by decide +kernel
theorem d_E_readRestOfNegative_2 : decode b_E_readRestOfNegative 2 = .ok (.iload_n 2, 1) := by decide +kernel
theorem d_E_readRestOfNegative_3 : decode b_E_readRestOfNegative 3 = .ok (.iconst 1, 1) := by decide +kernel
theorem d_E_readRestOfNegative_4 : decode b_E_readRestOfNegative 4 = .ok (.iadd, 1) := by decide +kernel
theorem d_E_readRestOfNegative_5 : decode b_E_readRestOfNegative 5 = .ok (.invokevirtual 53, 3) := by decide +kernel
theorem d_E_readRestOfNegative_8 : decode b_E_readRestOfNegative 8 = .ok (.ifCond .ne 5, 3) := by decide +kernel
theorem d_E_readRestOfNegative_11 : decode b_E_readRestOfNegative 11 = .ok (.iconst 0, 1) := by decide +kernel
theorem d_E_readRestOfNegative_12 : decode b_E_readRestOfNegative 12 = .ok (.ireturn, 1) := by decide +kernel
theorem d_E_readRestOfNegative_13 : decode b_E_readRestOfNegative 13 = .ok (.aload_n 0, 1) := by decide +kernel
theorem d_E_readRestOfNegative_14 : decode b_E_readRestOfNegative 14 = .ok (.getfield 20, 3) := by decide +kernel
theorem d_E_readRestOfNegative_17 : decode b_E_readRestOfNegative 17 = .ok (.iload_n 2, 1) := by decide +kernel
theorem d_E_readRestOfNegative_18 : decode b_E_readRestOfNegative 18 = .ok (.aaload, 1) := by decide +kernel
theorem d_E_readRestOfNegative_19 : decode b_E_readRestOfNegative 19 = .ok (.aload_n 0, 1) := by decide +kernel
theorem d_E_readRestOfNegative_20 : decode b_E_readRestOfNegative 20 = .ok (.getfield 20, 3) := by decide +kernel
theorem d_E_readRestOfNegative_23 : decode b_E_readRestOfNegative 23 = .ok (.iload_n 2, 1) := by decide +kernel
theorem d_E_readRestOfNegative_24 : decode b_E_readRestOfNegative 24 = .ok (.iconst 1, 1) := by decide +kernel
theorem d_E_readRestOfNegative_25 : decode b_E_readRestOfNegative 25 = .ok (.iadd, 1) := by decide +kernel
theorem d_E_readRestOfNegative_26 : decode b_E_readRestOfNegative 26 = .ok (.aaload, 1) := by decide +kernel
theorem d_E_readRestOfNegative_27 : decode b_E_readRestOfNegative 27 = .ok (.invokevirtual 77, 3) := by decide +kernel
theorem d_E_readRestOfNegative_30 : decode b_E_readRestOfNegative 30 = .ok (.iconst 1, 1) := by decide +kernel
theorem d_E_readRestOfNegative_31 : decode b_E_readRestOfNegative 31 = .ok (.ireturn, 1) := by decide +kernel
theorem d_G_init_0 : decode b_G_init 0 = .ok (.aload_n 0, 1) := by decide +kernel
theorem d_G_init_1 : decode b_G_init 1 = .ok (.invokespecial 3, 3) := by decide +kernel
theorem d_G_init_4 : decode b_G_init 4 = .ok (.aload_n 0, 1) := by decide +kernel
theorem d_G_init_5 : decode b_G_init 5 = .ok (.iconst 4, 1) := by decide +kernel
theorem d_G_init_6 : decode b_G_init 6 = .ok (.newarray .int, 2) := by decide +kernel
theorem d_G_init_8 : decode b_G_init 8 = .ok (.putfield 9, 3) := by decide +kernel
theorem d_G_init_11 : decode b_G_init 11 = .ok (.return_, 1) := by decide +kernel
