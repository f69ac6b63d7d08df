theorem d_P_becomeProduct_51 : decode b_P_becomeProduct 51 = .ok (.iload_n 3, 1) := by decide +kernel
theorem d_P_becomeProduct_52 : decode b_P_becomeProduct 52 = .ok (.iload 4, 2) := by decide +kernel
theorem d_P_becomeProduct_54 : decode b_P_becomeProduct 54 = .ok (.invokestatic 34, 3) := by decide +kernel
theorem d_P_becomeProduct_57 : decode b_P_becomeProduct 57 = .ok (.ifCond .ne 5, 3) := by decide +kernel
theorem d_P_becomeProduct_60 : decode b_P_becomeProduct 60 = .ok (.iconst 0, 1) := by decide +kernel
theorem d_P_becomeProduct_61 : decode b_P_becomeProduct 61 = .ok (.ireturn, 1) := by decide +kernel
theorem d_P_becomeProduct_62 : decode b_P_becomeProduct 62 = .ok (.aload_n 0, 1) := by decide +kernel
theorem d_P_becomeProduct_63 : decode b_P_becomeProduct 63 = .ok (.getfield 11, 3) := by decide +kernel
theorem d_P_becomeProduct_66 : decode b_P_becomeProduct 66 = .ok (.iload_n 3, 1) := by decide +kernel
theorem d_P_becomeProduct_67 : decode b_P_becomeProduct 67 = .ok (.iload 4, 2) := by decide +kernel
theorem d_P_becomeProduct_69 : decode b_P_becomeProduct 69 = .ok (.iadd, 1) := by decide +kernel
theorem d_P_becomeProduct_70 : decode b_P_becomeProduct 70 = .ok (.dup2, 1) := by decide +kernel
theorem d_P_becomeProduct_71 : decode b_P_becomeProduct 71 = .ok (.iaload, 1) := by decide +kernel
theorem d_P_becomeProduct_72 : decode b_P_becomeProduct 72 = .ok (.aload_n 1, 1) := by decide +kernel
theorem d_P_becomeProduct_73 : decode b_P_becomeProduct 73 = .ok (.getfield 11, 3) := by decide +kernel
theorem d_P_becomeProduct_76 : decode b_P_becomeProduct 76 = .ok (.iload_n 3, 1) := by decide +kernel
theorem d_P_becomeProduct_77 : decode b_P_becomeProduct 77 = .ok (.iaload, 1) := by decide +kernel
theorem d_P_becomeProduct_78 : decode b_P_becomeProduct 78 = .ok (.aload_n 2, 1) := by decide +kernel
theorem d_P_becomeProduct_79 : decode b_P_becomeProduct 79 = .ok (.getfield 11, 3) := by decide +kernel
theorem d_P_becomeProduct_82 : decode b_P_becomeProduct 82 = .ok (.iload 4, 2) := by decide +kernel
theorem d_P_becomeProduct_84 : decode b_P_becomeProduct 84 = .ok (.iaload, 1) := by decide +kernel
theorem d_P_becomeProduct_85 : decode b_P_becomeProduct 85 = .ok (.imul, 1) := by decide +kernel
theorem d_P_becomeProduct_86 : decode b_P_becomeProduct 86 = .ok (.iadd, 1) := by decide +kernel
theorem d_P_becomeProduct_87 : decode b_P_becomeProduct 87 = .ok (.iastore, 1) := by decide +kernel
theorem d_P_becomeProduct_88 : decode b_P_becomeProduct 88 = .ok (.iinc 4 1, 3) := by decide +kernel
theorem d_P_becomeProduct_91 : decode b_P_becomeProduct 91 = .ok (.goto (-60), 3) := by decide +kernel
theorem d_P_becomeProduct_94 : decode b_P_becomeProduct 94 = .ok (.iinc 3 1, 3) := by decide +kernel
theorem d_P_becomeProduct_97 : decode b_P_becomeProduct 97 = .ok (.goto (-87), 3) := by decide +kernel
theorem d_P_becomeProduct_100 : decode b_P_becomeProduct 100 = .ok (.aload_n 0, 1) := by decide +kernel
theorem d_P_becomeProduct_101 : decode b_P_becomeProduct 101 = .ok (.invokevirtual 30, 3) := by decide +kernel
theorem d_P_becomeProduct_104 : decode b_P_becomeProduct 104 = .ok (.ifCond .ne 7, 3) := by decide +kernel
theorem d_P_becomeProduct_107 : decode b_P_becomeProduct 107 = .ok (.iconst 1, 1) := by decide +kernel
theorem d_P_becomeProduct_108 : decode b_P_becomeProduct 108 = .ok (.goto 4, 3) := by decide +kernel
theorem d_P_becomeProduct_111 : decode b_P_becomeProduct 111 = .ok (.iconst 0, 1) := by decide +kernel
theorem d_P_becomeProduct_112 : decode b_P_becomeProduct 112 = .ok (.ireturn, 1) := by decide +kernel
theorem d_P_powersFit_0 : decode b_P_powersFit 0 = .ok (.iconst 0, 1) := by decide +kernel
theorem d_P_powersFit_1 : decode b_P_powersFit 1 = .ok (.istore_n 2, 1) := by decide +kernel
theorem d_P_powersFit_2 : decode b_P_powersFit 2 = .ok (.iload_n 2, 1) := by decide +kernel
theorem d_P_powersFit_3 : decode b_P_powersFit 3 = .ok (.iconst 4, 1) := by decide +kernel
theorem d_P_powersFit_4 : decode b_P_powersFit 4 = .ok (.if_icmp .ge 26, 3) := by decide +kernel
theorem d_P_powersFit_7 : decode b_P_powersFit 7 = .ok (.iload_n 0, 1) := by decide +kernel
theorem d_P_powersFit_8 : decode b_P_powersFit 8 = .ok (.iload_n 2, 1) := by decide +kernel
theorem d_P_powersFit_9 : decode b_P_powersFit 9 = .ok (.invokestatic 38, 3) := by decide +kernel
theorem d_P_powersFit_12 : decode b_P_powersFit 12 = .ok (.iload_n 1, 1) := by decide +kernel
theorem d_P_powersFit_13 : decode b_P_powersFit 13 = .ok (.iload_n 2, 1) := by decide +kernel
theorem d_P_powersFit_14 : decode b_P_powersFit 14 = .ok (.invokestatic 38, 3) := by decide +kernel
theorem d_P_powersFit_17 : decode b_P_powersFit 17 = .ok (.iadd, 1) := by decide +kernel
theorem d_P_powersFit_18 : decode b_P_powersFit 18 = .ok (.iconst 2, 1) := by decide +kernel
theorem d_P_powersFit_19 : decode b_P_powersFit 19 = .ok (.if_icmp .le 5, 3) := by decide +kernel
theorem d_P_powersFit_22 : decode b_P_powersFit 22 = .ok (.iconst 0, 1) := by decide +kernel
theorem d_P_powersFit_23 : decode b_P_powersFit 23 = .ok (.ireturn, 1) := by decide +kernel
theorem d_P_powersFit_24 : decode b_P_powersFit 24 = .ok (.iinc 2 1, 3) := by decide +kernel
theorem d_P_powersFit_27 : decode b_P_powersFit 27 = .ok (.goto (-25), 3) := by decide +kernel
theorem d_P_powersFit_30 : decode b_P_powersFit 30 = .ok (.iconst 1, 1) := by decide +kernel
theorem d_P_powersFit_31 : decode b_P_powersFit 31 = .ok (.ireturn, 1) := by decide +kernel
theorem d_P_hasLargeTerms_0 : decode b_P_hasLargeTerms 0 = .ok (.iconst 0, 1) := by decide +kernel
theorem d_P_hasLargeTerms_1 : decode b_P_hasLargeTerms 1 = .ok (.istore_n 1, 1) := by decide +kernel
theorem d_P_hasLargeTerms_2 : decode b_P_hasLargeTerms 2 = .ok (.iload_n 1, 1) := by decide +kernel
theorem d_P_hasLargeTerms_3 : decode b_P_hasLargeTerms 3 = .ok (.bipush 81, 2) := by decide +kernel
theorem d_P_hasLargeTerms_5 : decode b_P_hasLargeTerms 5 = .ok (.if_icmp .ge 35, 3) := by decide +kernel
theorem d_P_hasLargeTerms_8 : decode b_P_hasLargeTerms 8 = .ok (.aload_n 0, 1) := by decide +kernel
theorem d_P_hasLargeTerms_9 : decode b_P_hasLargeTerms 9 = .ok (.getfield 11, 3) := by decide +kernel
theorem d_P_hasLargeTerms_12 : decode b_P_hasLargeTerms 12 = .ok (.iload_n 1, 1) := by decide +kernel
theorem d_P_hasLargeTerms_13 : decode b_P_hasLargeTerms 13 = .ok (.iaload, 1) := by decide +kernel
theorem d_P_hasLargeTerms_14 : decode b_P_hasLargeTerms 14 = .ok (.sipush 1000, 3) := by decide +kernel
theorem d_P_hasLargeTerms_17 : decode b_P_hasLargeTerms 17 = .ok (.if_icmp .gt 15, 3) := by decide +kernel
theorem d_P_hasLargeTerms_20 : decode b_P_hasLargeTerms 20 = .ok (.aload_n 0, 1) := by decide +kernel
theorem d_P_hasLargeTerms_21 : decode b_P_hasLargeTerms 21 = .ok (.getfield 11, 3) := by decide +kernel
theorem d_P_hasLargeTerms_24 : decode b_P_hasLargeTerms 24 = .ok (.iload_n 1, 1) := by decide +kernel
theorem d_P_hasLargeTerms_25 : decode b_P_hasLargeTerms 25 = .ok (.iaload, 1) := by decide +kernel
theorem d_P_hasLargeTerms_26 : decode b_P_hasLargeTerms 26 = .ok (.sipush (-1000), 3) := by decide +kernel
theorem d_P_hasLargeTerms_29 : decode b_P_hasLargeTerms 29 = .ok (.if_icmp .ge 5, 3) := by decide +kernel
theorem d_P_hasLargeTerms_32 : decode b_P_hasLargeTerms 32 = .ok (.iconst 1, 1) := by decide +kernel
theorem d_P_hasLargeTerms_33 : decode b_P_hasLargeTerms 33 = .ok (.ireturn, 1) := by decide +kernel
theorem d_P_hasLargeTerms_34 : decode b_P_hasLargeTerms 34 = .ok (.iinc 1 1, 3) := by decide +kernel
theorem d_P_hasLargeTerms_37 : decode b_P_hasLargeTerms 37 = .ok (.goto (-35), 3) := by decide +kernel
theorem d_P_hasLargeTerms_40 : decode b_P_hasLargeTerms 40 = .ok (.aload_n 0, 1) := by decide +kernel
theorem d_P_hasLargeTerms_41 : decode b_P_hasLargeTerms 41 = .ok (.invokevirtual 42, 3) := by decide +kernel
theorem d_P_hasLargeTerms_44 : decode b_P_hasLargeTerms 44 = .ok (.bipush 12, 2) := by decide +kernel
theorem d_P_hasLargeTerms_46 : decode b_P_hasLargeTerms 46 = .ok (.if_icmp .le 7, 3) := by decide +kernel
theorem d_P_hasLargeTerms_49 : decode b_P_hasLargeTerms 49 = .ok (.iconst 1, 1) := by decide +kernel
theorem d_P_hasLargeTerms_50 : decode b_P_hasLargeTerms 50 = .ok (.goto 4, 3) := by decide +kernel
theorem d_P_hasLargeTerms_53 : decode b_P_hasLargeTerms 53 = .ok (.iconst 0, 1) := by decide +kernel
theorem d_P_hasLargeTerms_54 : decode b_P_hasLargeTerms 54 = .ok (.ireturn, 1) := by decide +kernel
theorem d_Q_init_0 : decode b_Q_init 0 = .ok (.aload_n 0, 1) := by decide +kernel
theorem d_Q_init_1 : decode b_Q_init 1 = .ok (.invokespecial 3, 3) := by decide +kernel
theorem d_Q_init_4 : decode b_Q_init 4 = .ok (.aload_n 0, 1) := by decide +kernel
theorem d_Q_init_5 : decode b_Q_init 5 = .ok (.iconst 4, 1) := by decide +kernel
theorem d_Q_init_6 : decode b_Q_init 6 = .ok (.newarray .int, 2) := by decide +kernel
theorem d_Q_init_8 : decode b_Q_init 8 = .ok (.putfield 9, 3) := by decide +kernel
theorem d_Q_init_11 : decode b_Q_init 11 = .ok (.aload_n 0, 1) := by decide +kernel
theorem d_Q_init_12 : decode b_Q_init 12 = .ok (.new 15, 3) := by decide +kernel
theorem d_Q_init_15 : decode b_Q_init 15 = .ok (.dup, 1) := by decide +kernel
theorem d_Q_init_16 : decode b_Q_init 16 = .ok (.invokespecial 17, 3) := by decide +kernel
theorem d_Q_init_19 : decode b_Q_init 19 = .ok (.putfield 18, 3) := by decide +kernel
theorem d_Q_init_22 : decode b_Q_init 22 = .ok (.aload_n 0, 1) := by decide +kernel
theorem d_Q_init_23 : decode b_Q_init 23 = .ok (.bipush 6, 2) := by decide +kernel
theorem d_Q_init_25 : decode b_Q_init 25 = .ok (.newarray .long, 2) := by decide +kernel
theorem d_Q_init_27 : decode b_Q_init 27 = .ok (.putfield 22, 3) := by decide +kernel
theorem d_Q_init_30 : decode b_Q_init 30 = .ok (.aload_n 0, 1) := by decide +kernel
theorem d_Q_init_31 : decode b_Q_init 31 = .ok (.bipush 6, 2) := by decide +kernel
theorem d_Q_init_33 : decode b_Q_init 33 = .ok (.newarray .long, 2) := by decide +kernel
theorem d_Q_init_35 : decode b_Q_init 35 = .ok (.putfield 26, 3) := by decide +kernel
theorem d_Q_init_38 : decode b_Q_init 38 = .ok (.return_, 1) := by decide +kernel
theorem d_Q_become_0 : decode b_Q_become 0 = .ok (.aload_n 0, 1) := by decide +kernel
theorem d_Q_become_1 : decode b_Q_become 1 = .ok (.iconst 1, 1) := by decide +kernel
theorem d_Q_become_2 : decode b_Q_become 2 = .ok (.putfield 29, 3) := by decide +kernel
theorem d_Q_become_5 : decode b_Q_become 5 = .ok (.aload_n 0, 1) := by decide +kernel
theorem d_Q_become_6 : decode b_Q_become 6 = .ok (.aload_n 1, 1) := by decide +kernel
theorem d_Q_become_7 : decode b_Q_become 7 = .ok (.invokevirtual 33, 3) := by decide +kernel
theorem d_Q_become_10 : decode b_Q_become 10 = .ok (.putfield 39, 3) := by decide +kernel
theorem d_Q_become_13 : decode b_Q_become 13 = .ok (.aload_n 0, 1) := by decide +kernel
theorem d_Q_become_14 : decode b_Q_become 14 = .ok (.aload_n 1, 1) := by decide +kernel
theorem d_Q_become_15 : decode b_Q_become 15 = .ok (.invokevirtual 42, 3) := by decide +kernel
theorem d_Q_become_18 : decode b_Q_become 18 = .ok (.putfield 45, 3) := by decide +kernel
theorem d_Q_become_21 : decode b_Q_become 21 = .ok (.aload_n 0, 1) := by decide +kernel
theorem d_Q_become_22 : decode b_Q_become 22 = .ok (.aload_n 1, 1) := by decide +kernel
theorem d_Q_become_23 : decode b_Q_become 23 = .ok (.invokevirtual 47, 3) := by decide +kernel
theorem d_Q_become_26 : decode b_Q_become 26 = .ok (.putfield 50, 3) := by decide +kernel
theorem d_Q_become_29 : decode b_Q_become 29 = .ok (.aload_n 0, 1) := by decide +kernel
theorem d_Q_become_30 : decode b_Q_become 30 = .ok (.aload_n 1, 1) := by decide +kernel
theorem d_Q_become_31 : decode b_Q_become 31 = .ok (.invokevirtual 52, 3) := by decide +kernel
theorem d_Q_become_34 : decode b_Q_become 34 = .ok (.putfield 55, 3) := by decide +kernel
theorem d_Q_become_37 : decode b_Q_become 37 = .ok (.iconst 0, 1) := by decide +kernel
theorem d_Q_become_38 : decode b_Q_become 38 = .ok (.istore_n 3, 1) := by decide +kernel
theorem d_Q_become_39 : decode b_Q_become 39 = .ok (.iload_n 3, 1) := by decide +kernel
theorem d_Q_become_40 : decode b_Q_become 40 = .ok (.iconst 4, 1) := by decide +kernel
theorem d_Q_become_41 : decode b_Q_become 41 = .ok (.if_icmp .ge 20, 3) := by decide +kernel
theorem d_Q_become_44 : decode b_Q_become 44 = .ok (.aload_n 0, 1) := by decide +kernel
theorem d_Q_become_45 : decode b_Q_become 45 = .ok (.getfield 9, 3) := by decide +kernel
theorem d_Q_become_48 : decode b_Q_become 48 = .ok (.iload_n 3, 1) := by decide +kernel
theorem d_Q_become_49 : decode b_Q_become 49 = .ok (.aload_n 1, 1) := by decide +kernel
theorem d_Q_become_50 : decode b_Q_become 50 = .ok (.iload_n 3, 1) := by decide +kernel
theorem d_Q_become_51 : decode b_Q_become 51 = .ok (.invokevirtual 57, 3) := by decide +kernel
theorem d_Q_become_54 : decode b_Q_become 54 = .ok (.iastore, 1) := by decide +kernel
theorem d_Q_become_55 : decode b_Q_become 55 = .ok (.iinc 3 1, 3) := by decide +kernel
theorem d_Q_become_58 : decode b_Q_become 58 = .ok (.goto (-19), 3) := by decide +kernel
theorem d_Q_become_61 : decode b_Q_become 61 = .ok (.aload_n 0, 1) := by decide +kernel
theorem d_Q_become_62 : decode b_Q_become 62 = .ok (.getfield 18, 3) := by decide +kernel
theorem d_Q_become_65 : decode b_Q_become 65 = .ok (.aload_n 2, 1) := by decide +kernel
theorem d_Q_become_66 : decode b_Q_become 66 = .ok (.invokevirtual 61, 3) := by decide +kernel
theorem d_Q_become_69 : decode b_Q_become 69 = .ok (.return_, 1) := by decide +kernel
theorem d_Q_remove_0 : decode b_Q_remove 0 = .ok (.aload_n 0, 1) := by decide +kernel
theorem d_Q_remove_1 : decode b_Q_remove 1 = .ok (.iconst 0, 1) := by decide +kernel
theorem d_Q_remove_2 : decode b_Q_remove 2 = .ok (.putfield 29, 3) := by decide +kernel
theorem d_Q_remove_5 : decode b_Q_remove 5 = .ok (.return_, 1) := by decide +kernel
theorem d_Q_isThere_0 : decode b_Q_isThere 0 = .ok (.aload_n 0, 1) := by decide +kernel
theorem d_Q_isThere_1 : decode b_Q_isThere 1 = .ok (.getfield 29, 3) := by decide +kernel
theorem d_Q_isThere_4 : decode b_Q_isThere 4 = .ok (.ireturn, 1) := by decide +kernel
theorem d_Q_terms_0 : decode b_Q_terms 0 = .ok (.aload_n 0, 1) := by decide +kernel
theorem d_Q_terms_1 : decode b_Q_terms 1 = .ok (.getfield 18, 3) := by decide +kernel
theorem d_Q_terms_4 : decode b_Q_terms 4 = .ok (.invokevirtual 65, 3) := by decide +kernel
theorem d_Q_terms_7 : decode b_Q_terms 7 = .ok (.ireturn, 1) := by decide +kernel
theorem d_Q_chain_0 : decode b_Q_chain 0 = .ok (.iconst 0, 1) := by decide +kernel
theorem d_Q_chain_1 : decode b_Q_chain 1 = .ok (.istore_n 1, 1) := by decide +kernel
theorem d_Q_chain_2 : decode b_Q_chain 2 = .ok (.aload_n 0, 1) := by decide +kernel
theorem d_Q_chain_3 : decode b_Q_chain 3 = .ok (.getfield 39, 3) := by decide +kernel
theorem d_Q_chain_6 : decode b_Q_chain 6 = .ok (.istore_n 2, 1) := by decide +kernel
theorem d_Q_chain_7 : decode b_Q_chain 7 = .ok (.iload_n 2, 1) := by decide +kernel
theorem d_Q_chain_8 : decode b_Q_chain 8 = .ok (.aload_n 0, 1) := by decide +kernel
theorem d_Q_chain_9 : decode b_Q_chain 9 = .ok (.getfield 45, 3) := by decide +kernel
theorem d_Q_chain_12 : decode b_Q_chain 12 = .ok (.if_icmp .gt 15, 3) := by decide +kernel
theorem d_Q_chain_15 : decode b_Q_chain 15 = .ok (.iload_n 1, 1) := by decide +kernel
theorem d_Q_chain_16 : decode b_Q_chain 16 = .ok (.iconst 1, 1) := by decide +kernel
theorem d_Q_chain_17 : decode b_Q_chain 17 = .ok (.iload_n 2, 1) := by decide +kernel
theorem d_Q_chain_18 : decode b_Q_chain 18 = .ok (.ishl, 1) := by decide +kernel
theorem d_Q_chain_19 : decode b_Q_chain 19 = .ok (.iadd, 1) := by decide +kernel
theorem d_Q_chain_20 : decode b_Q_chain 20 = .ok (.istore_n 1, 1) := by decide +kernel
theorem d_Q_chain_21 : decode b_Q_chain 21 = .ok (.iinc 2 1, 3) := by decide +kernel
theorem d_Q_chain_24 : decode b_Q_chain 24 = .ok (.goto (-17), 3) := by decide +kernel
theorem d_Q_chain_27 : decode b_Q_chain 27 = .ok (.iload_n 1, 1) := by decide +kernel
theorem d_Q_chain_28 : decode b_Q_chain 28 = .ok (.ireturn, 1) := by decide +kernel
theorem d_Q_groupColumn_0 : decode b_Q_groupColumn 0 = .ok (.aload_n 0, 1) := by decide +kernel
theorem d_Q_groupColumn_1 : decode b_Q_groupColumn 1 = .ok (.getfield 50, 3) := by decide +kernel
theorem d_Q_groupColumn_4 : decode b_Q_groupColumn 4 = .ok (.ireturn, 1) := by decide +kernel
theorem d_Q_conditions_0 : decode b_Q_conditions 0 = .ok (.aload_n 0, 1) := by decide +kernel
theorem d_Q_conditions_1 : decode b_Q_conditions 1 = .ok (.getfield 55, 3) := by decide +kernel
theorem d_Q_conditions_4 : decode b_Q_conditions 4 = .ok (.ireturn, 1) := by decide +kernel
theorem d_Q_answerFor_0 : decode b_Q_answerFor 0 = .ok (.aload_n 0, 1) := by decide +kernel
theorem d_Q_answerFor_1 : decode b_Q_answerFor 1 = .ok (.getfield 50, 3) := by decide +kernel
theorem d_Q_answerFor_4 : decode b_Q_answerFor 4 = .ok (.bipush (-2), 2) := by decide +kernel
theorem d_Q_answerFor_6 : decode b_Q_answerFor 6 = .ok (.if_icmp .ne 18, 3) := by decide +kernel
theorem d_Q_answerFor_9 : decode b_Q_answerFor 9 = .ok (.iload_n 2, 1) := by decide +kernel
theorem d_Q_answerFor_10 : decode b_Q_answerFor 10 = .ok (.ifCond .ne 12, 3) := by decide +kernel
theorem d_Q_answerFor_13 : decode b_Q_answerFor 13 = .ok (.aload_n 0, 1) := by decide +kernel
theorem d_Q_answerFor_14 : decode b_Q_answerFor 14 = .ok (.aload_n 1, 1) := by decide +kernel
theorem d_Q_answerFor_15 : decode b_Q_answerFor 15 = .ok (.iconst (-1), 1) := by decide +kernel
theorem d_Q_answerFor_16 : decode b_Q_answerFor 16 = .ok (.invokevirtual 68, 3) := by decide +kernel
theorem d_Q_answerFor_19 : decode b_Q_answerFor 19 = .ok (.goto 4, 3) := by decide +kernel
theorem d_Q_answerFor_22 : decode b_Q_answerFor 22 = .ok (.lconst 0, 1) := by decide +kernel
theorem d_Q_answerFor_23 : decode b_Q_answerFor 23 = .ok (.lreturn, 1) := by decide +kernel
theorem d_Q_answerFor_24 : decode b_Q_answerFor 24 = .ok (.aload_n 0, 1) := by decide +kernel
theorem d_Q_answerFor_25 : decode b_Q_answerFor 25 = .ok (.aload_n 1, 1) := by decide +kernel
theorem d_Q_answerFor_26 : decode b_Q_answerFor 26 = .ok (.iload_n 2, 1) := by decide +kernel
theorem d_Q_answerFor_27 : decode b_Q_answerFor 27 = .ok (.invokevirtual 68, 3) := by decide +kernel
theorem d_Q_answerFor_30 : decode b_Q_answerFor 30 = .ok (.lreturn, 1) := by decide +kernel
theorem d_Q_sumOver_0 : decode b_Q_sumOver 0 = .ok (.lconst 0, 1) := by decide +kernel
theorem d_Q_sumOver_1 : decode b_Q_sumOver 1 = .ok (.lstore_n 3, 1) := by decide +kernel
theorem d_Q_sumOver_2 : decode b_Q_sumOver 2 = .ok (.iconst 0, 1) := by decide +kernel
theorem d_Q_sumOver_3 : decode b_Q_sumOver 3 = .ok (.istore 5, 2) := by decide +kernel
theorem d_Q_sumOver_5 : decode b_Q_sumOver 5 = .ok (.iload 5, 2) := by decide +kernel
theorem d_Q_sumOver_7 : decode b_Q_sumOver 7 = .ok (.bipush 81, 2) := by decide +kernel
theorem d_Q_sumOver_9 : decode b_Q_sumOver 9 = .ok (.if_icmp .ge 40, 3) := by decide +kernel
theorem d_Q_sumOver_12 : decode b_Q_sumOver 12 = .ok (.aload_n 0, 1) := by decide +kernel
theorem d_Q_sumOver_13 : decode b_Q_sumOver 13 = .ok (.getfield 18, 3) := by decide +kernel
theorem d_Q_sumOver_16 : decode b_Q_sumOver 16 = .ok (.iload 5, 2) := by decide +kernel
theorem d_Q_sumOver_18 : decode b_Q_sumOver 18 = .ok (.invokevirtual 72, 3) := by decide +kernel
theorem d_Q_sumOver_21 : decode b_Q_sumOver 21 = .ok (.istore 6, 2) := by decide +kernel
theorem d_Q_sumOver_23 : decode b_Q_sumOver 23 = .ok (.iload 6, 2) := by decide +kernel
theorem d_Q_sumOver_25 : decode b_Q_sumOver 25 = .ok (.ifCond .eq 18, 3) := by decide +kernel
theorem d_Q_sumOver_28 : decode b_Q_sumOver 28 = .ok (.lload_n 3, 1) := by decide +kernel
theorem d_Q_sumOver_29 : decode b_Q_sumOver 29 = .ok (.iload 6, 2) := by decide +kernel
theorem d_Q_sumOver_31 : decode b_Q_sumOver 31 = .ok (.i2l, 1) := by decide +kernel
theorem d_Q_sumOver_32 : decode b_Q_sumOver 32 = .ok (.aload_n 0, 1) := by decide +kernel
theorem d_Q_sumOver_33 : decode b_Q_sumOver 33 = .ok (.aload_n 1, 1) := by decide +kernel
theorem d_Q_sumOver_34 : decode b_Q_sumOver 34 = .ok (.iload 5, 2) := by decide +kernel
theorem d_Q_sumOver_36 : decode b_Q_sumOver 36 = .ok (.iload_n 2, 1) := by decide +kernel
theorem d_Q_sumOver_37 : decode b_Q_sumOver 37 = .ok (.invokevirtual 75, 3) := by decide +kernel
theorem d_Q_sumOver_40 : decode b_Q_sumOver 40 = .ok (.lmul, 1) := by decide +kernel
theorem d_Q_sumOver_41 : decode b_Q_sumOver 41 = .ok (.ladd, 1) := by decide +kernel
theorem d_Q_sumOver_42 : decode b_Q_sumOver 42 = .ok (.lstore_n 3, 1) := by decide +kernel
theorem d_Q_sumOver_43 : decode b_Q_sumOver 43 = .ok (.iinc 5 1, 3) := by decide +kernel
theorem d_Q_sumOver_46 : decode b_Q_sumOver 46 = .ok (.goto (-41), 3) := by decide +kernel
theorem d_Q_sumOver_49 : decode b_Q_sumOver 49 = .ok (.lload_n 3, 1) := by decide +kernel
theorem d_Q_sumOver_50 : decode b_Q_sumOver 50 = .ok (.lreturn, 1) := by decide +kernel
theorem d_Q_sumOfPowers_0 : decode b_Q_sumOfPowers 0 = .ok (.aload_n 0, 1) := by decide +kernel
theorem d_Q_sumOfPowers_1 : decode b_Q_sumOfPowers 1 = .ok (.getfield 22, 3) := by decide +kernel
theorem d_Q_sumOfPowers_4 : decode b_Q_sumOfPowers 4 = .ok (.astore 4, 2) := by decide +kernel
theorem d_Q_sumOfPowers_6 : decode b_Q_sumOfPowers 6 = .ok (.aload_n 0, 1) := by decide +kernel
theorem d_Q_sumOfPowers_7 : decode b_Q_sumOfPowers 7 = .ok (.getfield 26, 3) := by decide +kernel
theorem d_Q_sumOfPowers_10 : decode b_Q_sumOfPowers 10 = .ok (.astore 5, 2) := by decide +kernel
theorem d_Q_sumOfPowers_12 : decode b_Q_sumOfPowers 12 = .ok (.iconst 0, 1) := by decide +kernel
theorem d_Q_sumOfPowers_13 : decode b_Q_sumOfPowers 13 = .ok (.istore 6, 2) := by decide +kernel
theorem d_Q_sumOfPowers_15 : decode b_Q_sumOfPowers 15 = .ok (.iload 6, 2) := by decide +kernel
theorem d_Q_sumOfPowers_17 : decode b_Q_sumOfPowers 17 = .ok (.bipush 6, 2) := by decide +kernel
theorem d_Q_sumOfPowers_19 : decode b_Q_sumOfPowers 19 = .ok (.if_icmp .ge 26, 3) := by decide +kernel
theorem d_Q_sumOfPowers_22 : decode b_Q_sumOfPowers 22 = .ok (.aload 4, 2) := by decide +kernel
theorem d_Q_sumOfPowers_24 : decode b_Q_sumOfPowers 24 = .ok (.iload 6, 2) := by decide +kernel
theorem d_Q_sumOfPowers_26 : decode b_Q_sumOfPowers 26 = .ok (.aload_n 0, 1) := by decide +kernel
theorem d_Q_sumOfPowers_27 : decode b_Q_sumOfPowers 27 = .ok (.aload_n 0, 1) := by decide +kernel
theorem d_Q_sumOfPowers_28 : decode b_Q_sumOfPowers 28 = .ok (.getfield 39, 3) := by decide +kernel
theorem d_Q_sumOfPowers_31 : decode b_Q_sumOfPowers 31 = .ok (.iload 6, 2) := by decide +kernel
theorem d_Q_sumOfPowers_33 : decode b_Q_sumOfPowers 33 = .ok (.iload_n 2, 1) := by decide +kernel
theorem d_Q_sumOfPowers_34 : decode b_Q_sumOfPowers 34 = .ok (.iload_n 3, 1) := by decide +kernel
theorem d_Q_sumOfPowers_35 : decode b_Q_sumOfPowers 35 = .ok (.invokevirtual 79, 3) := by decide +kernel
theorem d_Q_sumOfPowers_38 : decode b_Q_sumOfPowers 38 = .ok (.lastore, 1) := by decide +kernel
theorem d_Q_sumOfPowers_39 : decode b_Q_sumOfPowers 39 = .ok (.iinc 6 1, 3) := by decide +kernel
theorem d_Q_sumOfPowers_42 : decode b_Q_sumOfPowers 42 = .ok (.goto (-27), 3) := by decide +kernel
theorem d_Q_sumOfPowers_45 : decode b_Q_sumOfPowers 45 = .ok (.aload_n 0, 1) := by decide +kernel
theorem d_Q_sumOfPowers_46 : decode b_Q_sumOfPowers 46 = .ok (.getfield 39, 3) := by decide +kernel
theorem d_Q_sumOfPowers_49 : decode b_Q_sumOfPowers 49 = .ok (.istore 6, 2) := by decide +kernel
theorem d_Q_sumOfPowers_51 : decode b_Q_sumOfPowers 51 = .ok (.iload 6, 2) := by decide +kernel
theorem d_Q_sumOfPowers_53 : decode b_Q_sumOfPowers 53 = .ok (.aload_n 0, 1) := by decide +kernel
theorem d_Q_sumOfPowers_54 : decode b_Q_sumOfPowers 54 = .ok (.getfield 45, 3) := by decide +kernel
theorem d_Q_sumOfPowers_57 : decode b_Q_sumOfPowers 57 = .ok (.if_icmp .gt 80, 3) := by decide +kernel
theorem d_Q_sumOfPowers_60 : decode b_Q_sumOfPowers 60 = .ok (.iconst 0, 1) := by decide +kernel
theorem d_Q_sumOfPowers_61 : decode b_Q_sumOfPowers 61 = .ok (.istore 7, 2) := by decide +kernel
theorem d_Q_sumOfPowers_63 : decode b_Q_sumOfPowers 63 = .ok (.iload 7, 2) := by decide +kernel
theorem d_Q_sumOfPowers_65 : decode b_Q_sumOfPowers 65 = .ok (.bipush 6, 2) := by decide +kernel
theorem d_Q_sumOfPowers_67 : decode b_Q_sumOfPowers 67 = .ok (.if_icmp .ge 52, 3) := by decide +kernel
theorem d_Q_sumOfPowers_70 : decode b_Q_sumOfPowers 70 = .ok (.aload_n 0, 1) := by decide +kernel
theorem d_Q_sumOfPowers_71 : decode b_Q_sumOfPowers 71 = .ok (.iload 6, 2) := by decide +kernel
theorem d_Q_sumOfPowers_73 : decode b_Q_sumOfPowers 73 = .ok (.iconst 1, 1) := by decide +kernel
theorem d_Q_sumOfPowers_74 : decode b_Q_sumOfPowers 74 = .ok (.iadd, 1) := by decide +kernel
theorem d_Q_sumOfPowers_75 : decode b_Q_sumOfPowers 75 = .ok (.iload 7, 2) := by decide +kernel
theorem d_Q_sumOfPowers_77 : decode b_Q_sumOfPowers 77 = .ok (.iload_n 2, 1) := by decide +kernel
theorem d_Q_sumOfPowers_78 : decode b_Q_sumOfPowers 78 = .ok (.iload_n 3, 1) := by decide +kernel
theorem d_Q_sumOfPowers_79 : decode b_Q_sumOfPowers 79 = .ok (.invokevirtual 79, 3) := by decide +kernel
theorem d_Q_sumOfPowers_82 : decode b_Q_sumOfPowers 82 = .ok (.lstore 8, 2) := by decide +kernel
theorem d_Q_sumOfPowers_84 : decode b_Q_sumOfPowers 84 = .ok (.aload 5, 2) := by decide +kernel
theorem d_Q_sumOfPowers_86 : decode b_Q_sumOfPowers 86 = .ok (.iload 7, 2) := by decide +kernel
theorem d_Q_sumOfPowers_88 : decode b_Q_sumOfPowers 88 = .ok (.lload 8, 2) := by decide +kernel
theorem d_Q_sumOfPowers_90 : decode b_Q_sumOfPowers 90 = .ok (.lconst 0, 1) := by decide +kernel
theorem d_Q_sumOfPowers_91 : decode b_Q_sumOfPowers 91 = .ok (.lcmp, 1) := by decide +kernel
theorem d_Q_sumOfPowers_92 : decode b_Q_sumOfPowers 92 = .ok (.ifCond .ne 7, 3) := by decide +kernel
theorem d_Q_sumOfPowers_95 : decode b_Q_sumOfPowers 95 = .ok (.lconst 0, 1) := by decide +kernel
theorem d_Q_sumOfPowers_96 : decode b_Q_sumOfPowers 96 = .ok (.goto 16, 3) := by decide +kernel
theorem d_Q_sumOfPowers_99 : decode b_Q_sumOfPowers 99 = .ok (.lload 8, 2) := by decide +kernel
theorem d_Q_sumOfPowers_101 : decode b_Q_sumOfPowers 101 = .ok (.aload_n 1, 1) := by decide +kernel
theorem d_Q_sumOfPowers_102 : decode b_Q_sumOfPowers 102 = .ok (.iload 6, 2) := by decide +kernel
theorem d_Q_sumOfPowers_104 : decode b_Q_sumOfPowers 104 = .ok (.aload 4, 2) := by decide +kernel
theorem d_Q_sumOfPowers_106 : decode b_Q_sumOfPowers 106 = .ok (.iload 7, 2) := by decide +kernel
theorem d_Q_sumOfPowers_108 : decode b_Q_sumOfPowers 108 = .ok (.invokestatic 83, 3) := by decide +kernel
theorem d_Q_sumOfPowers_111 : decode b_Q_sumOfPowers 111 = .ok (.lmul, 1) := by decide +kernel
theorem d_Q_sumOfPowers_112 : decode b_Q_sumOfPowers 112 = .ok (.lastore, 1) := by decide +kernel
theorem d_Q_sumOfPowers_113 : decode b_Q_sumOfPowers 113 = .ok (.iinc 7 1, 3) := by decide +kernel
theorem d_Q_sumOfPowers_116 : decode b_Q_sumOfPowers 116 = .ok (.goto (-53), 3) := by decide +kernel
theorem d_Q_sumOfPowers_119 : decode b_Q_sumOfPowers 119 = .ok (.aload 4, 2) := by decide +kernel
theorem d_Q_sumOfPowers_121 : decode b_Q_sumOfPowers 121 = .ok (.astore 7, 2) := by decide +kernel
theorem d_Q_sumOfPowers_123 : decode b_Q_sumOfPowers 123 = .ok (.aload 5, 2) := by decide +kernel
theorem d_Q_sumOfPowers_125 : decode b_Q_sumOfPowers 125 = .ok (.astore 4, 2) := by decide +kernel
theorem d_Q_sumOfPowers_127 : decode b_Q_sumOfPowers 127 = .ok (.aload 7, 2) := by decide +kernel
theorem d_Q_sumOfPowers_129 : decode b_Q_sumOfPowers 129 = .ok (.astore 5, 2) := by decide +kernel
theorem d_Q_sumOfPowers_131 : decode b_Q_sumOfPowers 131 = .ok (.iinc 6 1, 3) := by decide +kernel
theorem d_Q_sumOfPowers_134 : decode b_Q_sumOfPowers 134 = .ok (.goto (-83), 3) := by decide +kernel
theorem d_Q_sumOfPowers_137 : decode b_Q_sumOfPowers 137 = .ok (.lconst 0, 1) := by decide +kernel
theorem d_Q_sumOfPowers_138 : decode b_Q_sumOfPowers 138 = .ok (.lstore 6, 2) := by decide +kernel
theorem d_Q_sumOfPowers_140 : decode b_Q_sumOfPowers 140 = .ok (.iconst 0, 1) := by decide +kernel
theorem d_Q_sumOfPowers_141 : decode b_Q_sumOfPowers 141 = .ok (.istore 8, 2) := by decide +kernel
theorem d_Q_sumOfPowers_143 : decode b_Q_sumOfPowers 143 = .ok (.iload 8, 2) := by decide +kernel
theorem d_Q_sumOfPowers_145 : decode b_Q_sumOfPowers 145 = .ok (.bipush 6, 2) := by decide +kernel
theorem d_Q_sumOfPowers_147 : decode b_Q_sumOfPowers 147 = .ok (.if_icmp .ge 19, 3) := by decide +kernel
theorem d_Q_sumOfPowers_150 : decode b_Q_sumOfPowers 150 = .ok (.lload 6, 2) := by decide +kernel
theorem d_Q_sumOfPowers_152 : decode b_Q_sumOfPowers 152 = .ok (.aload 4, 2) := by decide +kernel
theorem d_Q_sumOfPowers_154 : decode b_Q_sumOfPowers 154 = .ok (.iload 8, 2) := by decide +kernel
theorem d_Q_sumOfPowers_156 : decode b_Q_sumOfPowers 156 = .ok (.laload, 1) := by decide +kernel
theorem d_Q_sumOfPowers_157 : decode b_Q_sumOfPowers 157 = .ok (.ladd, 1) := by decide +kernel
theorem d_Q_sumOfPowers_158 : decode b_Q_sumOfPowers 158 = .ok (.lstore 6, 2) := by decide +kernel
theorem d_Q_sumOfPowers_160 : decode b_Q_sumOfPowers 160 = .ok (.iinc 8 1, 3) := by decide +kernel
theorem d_Q_sumOfPowers_163 : decode b_Q_sumOfPowers 163 = .ok (.goto (-20), 3) := by decide +kernel
theorem d_Q_sumOfPowers_166 : decode b_Q_sumOfPowers 166 = .ok (.lload 6, 2) := by decide +kernel
theorem d_Q_sumOfPowers_168 : decode b_Q_sumOfPowers 168 = .ok (.lreturn, 1) := by decide +kernel
theorem d_Q_joined_0 : decode b_Q_joined 0 = .ok (.lconst 0, 1) := by decide +kernel
theorem d_Q_joined_1 : decode b_Q_joined 1 = .ok (.lstore 4, 2) := by decide +kernel
theorem d_Q_joined_3 : decode b_Q_joined 3 = .ok (.iconst 0, 1) := by decide +kernel
theorem d_Q_joined_4 : decode b_Q_joined 4 = .ok (.istore 6, 2) := by decide +kernel
theorem d_Q_joined_6 : decode b_Q_joined 6 = .ok (.iload 6, 2) := by decide +kernel
theorem d_Q_joined_8 : decode b_Q_joined 8 = .ok (.bipush 6, 2) := by decide +kernel
theorem d_Q_joined_10 : decode b_Q_joined 10 = .ok (.if_icmp .ge 31, 3) := by decide +kernel
theorem d_Q_joined_13 : decode b_Q_joined 13 = .ok (.lload 4, 2) := by decide +kernel
theorem d_Q_joined_15 : decode b_Q_joined 15 = .ok (.aload_n 2, 1) := by decide +kernel
theorem d_Q_joined_16 : decode b_Q_joined 16 = .ok (.iload 6, 2) := by decide +kernel
theorem d_Q_joined_18 : decode b_Q_joined 18 = .ok (.laload, 1) := by decide +kernel
theorem d_Q_joined_19 : decode b_Q_joined 19 = .ok (.aload_n 0, 1) := by decide +kernel
theorem d_Q_joined_20 : decode b_Q_joined 20 = .ok (.iload_n 1, 1) := by decide +kernel
theorem d_Q_joined_21 : decode b_Q_joined 21 = .ok (.iload 6, 2) := by decide +kernel
theorem d_Q_joined_23 : decode b_Q_joined 23 = .ok (.iload_n 3, 1) := by decide +kernel
theorem d_Q_joined_24 : decode b_Q_joined 24 = .ok (.invokestatic 87, 3) := by decide +kernel
theorem d_Q_joined_27 : decode b_Q_joined 27 = .ok (.invokevirtual 93, 3) := by decide +kernel
theorem d_Q_joined_30 : decode b_Q_joined 30 = .ok (.i2l, 1) := by decide +kernel
theorem d_Q_joined_31 : decode b_Q_joined 31 = .ok (.lmul, 1) := by decide +kernel
theorem d_Q_joined_32 : decode b_Q_joined 32 = .ok (.ladd, 1) := by decide +kernel
theorem d_Q_joined_33 : decode b_Q_joined 33 = .ok (.lstore 4, 2) := by decide +kernel
theorem d_Q_joined_35 : decode b_Q_joined 35 = .ok (.iinc 6 1, 3) := by decide +kernel
theorem d_Q_joined_38 : decode b_Q_joined 38 = .ok (.goto (-32), 3) := by decide +kernel
theorem d_Q_joined_41 : decode b_Q_joined 41 = .ok (.lload 4, 2) := by decide +kernel
theorem d_Q_joined_43 : decode b_Q_joined 43 = .ok (.lreturn, 1) := by decide +kernel
theorem d_Q_share_0 : decode b_Q_share 0 = .ok (.aload_n 0, 1) := by decide +kernel
theorem d_Q_share_1 : decode b_Q_share 1 = .ok (.getfield 9, 3) := by decide +kernel
theorem d_Q_share_4 : decode b_Q_share 4 = .ok (.iload_n 1, 1) := by decide +kernel
theorem d_Q_share_5 : decode b_Q_share 5 = .ok (.iaload, 1) := by decide +kernel
theorem d_Q_share_6 : decode b_Q_share 6 = .ok (.iload_n 2, 1) := by decide +kernel
theorem d_Q_share_7 : decode b_Q_share 7 = .ok (.ishr, 1) := by decide +kernel
theorem d_Q_share_8 : decode b_Q_share 8 = .ok (.iconst 1, 1) := by decide +kernel
theorem d_Q_share_9 : decode b_Q_share 9 = .ok (.iand, 1) := by decide +kernel
theorem d_Q_share_10 : decode b_Q_share 10 = .ok (.ifCond .ne 5, 3) := by decide +kernel
theorem d_Q_share_13 : decode b_Q_share 13 = .ok (.lconst 0, 1) := by decide +kernel
theorem d_Q_share_14 : decode b_Q_share 14 = .ok (.lreturn, 1) := by decide +kernel
theorem d_Q_share_15 : decode b_Q_share 15 = .ok (.iload_n 1, 1) := by decide +kernel
theorem d_Q_share_16 : decode b_Q_share 16 = .ok (.aload_n 0, 1) := by decide +kernel
theorem d_Q_share_17 : decode b_Q_share 17 = .ok (.getfield 50, 3) := by decide +kernel
theorem d_Q_share_20 : decode b_Q_share 20 = .ok (.if_icmp .ne 17, 3) := by decide +kernel
theorem d_Q_share_23 : decode b_Q_share 23 = .ok (.iload 4, 2) := by decide +kernel
theorem d_Q_share_25 : decode b_Q_share 25 = .ok (.iconst (-1), 1) := by decide +kernel
theorem d_Q_share_26 : decode b_Q_share 26 = .ok (.if_icmp .eq 11, 3) := by decide +kernel
theorem d_Q_share_29 : decode b_Q_share 29 = .ok (.iload_n 2, 1) := by decide +kernel
theorem d_Q_share_30 : decode b_Q_share 30 = .ok (.iload 4, 2) := by decide +kernel
theorem d_Q_share_32 : decode b_Q_share 32 = .ok (.if_icmp .eq 5, 3) := by decide +kernel
theorem d_Q_share_35 : decode b_Q_share 35 = .ok (.lconst 0, 1) := by decide +kernel
theorem d_Q_share_36 : decode b_Q_share 36 = .ok (.lreturn, 1) := by decide +kernel
theorem d_Q_share_37 : decode b_Q_share 37 = .ok (.lconst 1, 1) := by decide +kernel
theorem d_Q_share_38 : decode b_Q_share 38 = .ok (.lstore 5, 2) := by decide +kernel
theorem d_Q_share_40 : decode b_Q_share 40 = .ok (.iload_n 3, 1) := by decide +kernel
theorem d_Q_share_41 : decode b_Q_share 41 = .ok (.iload_n 1, 1) := by decide +kernel
theorem d_Q_share_42 : decode b_Q_share 42 = .ok (.invokestatic 94, 3) := by decide +kernel
theorem d_Q_share_45 : decode b_Q_share 45 = .ok (.istore 7, 2) := by decide +kernel
theorem d_Q_share_47 : decode b_Q_share 47 = .ok (.iconst 0, 1) := by decide +kernel
theorem d_Q_share_48 : decode b_Q_share 48 = .ok (.istore 8, 2) := by decide +kernel
theorem d_Q_share_50 : decode b_Q_share 50 = .ok (.iload 8, 2) := by decide +kernel
theorem d_Q_share_52 : decode b_Q_share 52 = .ok (.iload 7, 2) := by decide +kernel
theorem d_Q_share_54 : decode b_Q_share 54 = .ok (.if_icmp .ge 16, 3) := by decide +kernel
theorem d_Q_share_57 : decode b_Q_share 57 = .ok (.lload 5, 2) := by decide +kernel
theorem d_Q_share_59 : decode b_Q_share 59 = .ok (.iload_n 2, 1) := by decide +kernel
theorem d_Q_share_60 : decode b_Q_share 60 = .ok (.i2l, 1) := by decide +kernel
theorem d_Q_share_61 : decode b_Q_share 61 = .ok (.lmul, 1) := by decide +kernel
theorem d_Q_share_62 : decode b_Q_share 62 = .ok (.lstore 5, 2) := by decide +kernel
theorem d_Q_share_64 : decode b_Q_share 64 = .ok (.iinc 8 1, 3) := by decide +kernel
theorem d_Q_share_67 : decode b_Q_share 67 = .ok (.goto (-17), 3) := by decide +kernel
theorem d_Q_share_70 : decode b_Q_share 70 = .ok (.lload 5, 2) := by decide +kernel
theorem d_Q_share_72 : decode b_Q_share 72 = .ok (.lreturn, 1) := by decide +kernel
theorem d_R_init_0 : decode b_R_init 0 = .ok (.aload_n 0, 1) := by decide +kernel
theorem d_R_init_1 : decode b_R_init 1 = .ok (.invokespecial 3, 3) := by decide +kernel
theorem d_R_init_4 : decode b_R_init 4 = .ok (.aload_n 0, 1) := by decide +kernel
theorem d_R_init_5 : decode b_R_init 5 = .ok (.bipush 108, 2) := by decide +kernel
theorem d_R_init_7 : decode b_R_init 7 = .ok (.newarray .int, 2) := by decide +kernel
theorem d_R_init_9 : decode b_R_init 9 = .ok (.putfield 9, 3) := by decide +kernel
theorem d_R_init_12 : decode b_R_init 12 = .ok (.aload_n 0, 1) := by decide +kernel
theorem d_R_init_13 : decode b_R_init 13 = .ok (.sipush 512, 3) := by decide +kernel
theorem d_R_init_16 : decode b_R_init 16 = .ok (.newarray .int, 2) := by decide +kernel
theorem d_R_init_18 : decode b_R_init 18 = .ok (.putfield 15, 3) := by decide +kernel
theorem d_R_init_21 : decode b_R_init 21 = .ok (.aload_n 0, 1) := by decide +kernel
theorem d_R_init_22 : decode b_R_init 22 = .ok (.sipush 512, 3) := by decide +kernel
theorem d_R_init_25 : decode b_R_init 25 = .ok (.newarray .int, 2) := by decide +kernel
theorem d_R_init_27 : decode b_R_init 27 = .ok (.putfield 18, 3) := by decide +kernel
theorem d_R_init_30 : decode b_R_init 30 = .ok (.return_, 1) := by decide +kernel
theorem d_R_placeOf_0 : decode b_R_placeOf 0 = .ok (.iload_n 0, 1) := by decide +kernel
theorem d_R_placeOf_1 : decode b_R_placeOf 1 = .ok (.bipush 6, 2) := by decide +kernel
theorem d_R_placeOf_3 : decode b_R_placeOf 3 = .ok (.imul, 1) := by decide +kernel
theorem d_R_placeOf_4 : decode b_R_placeOf 4 = .ok (.iload_n 1, 1) := by decide +kernel
theorem d_R_placeOf_5 : decode b_R_placeOf 5 = .ok (.iadd, 1) := by decide +kernel
theorem d_R_placeOf_6 : decode b_R_placeOf 6 = .ok (.bipush 6, 2) := by decide +kernel
theorem d_R_placeOf_8 : decode b_R_placeOf 8 = .ok (.imul, 1) := by decide +kernel
theorem d_R_placeOf_9 : decode b_R_placeOf 9 = .ok (.iload_n 2, 1) := by decide +kernel
theorem d_R_placeOf_10 : decode b_R_placeOf 10 = .ok (.iadd, 1) := by decide +kernel
theorem d_R_placeOf_11 : decode b_R_placeOf 11 = .ok (.ireturn, 1) := by decide +kernel
theorem d_R_at_0 : decode b_R_at 0 = .ok (.aload_n 0, 1) := by decide +kernel
theorem d_R_at_1 : decode b_R_at 1 = .ok (.getfield 9, 3) := by decide +kernel
theorem d_R_at_4 : decode b_R_at 4 = .ok (.iload_n 1, 1) := by decide +kernel
theorem d_R_at_5 : decode b_R_at 5 = .ok (.iaload, 1) := by decide +kernel
theorem d_R_at_6 : decode b_R_at 6 = .ok (.ireturn, 1) := by decide +kernel
theorem d_R_raise_0 : decode b_R_raise 0 = .ok (.aload_n 0, 1) := by decide +kernel
theorem d_R_raise_1 : decode b_R_raise 1 = .ok (.getfield 9, 3) := by decide +kernel
theorem d_R_raise_4 : decode b_R_raise 4 = .ok (.iload_n 1, 1) := by decide +kernel
theorem d_R_raise_5 : decode b_R_raise 5 = .ok (.iaload, 1) := by decide +kernel
theorem d_R_raise_6 : decode b_R_raise 6 = .ok (.i2l, 1) := by decide +kernel
theorem d_R_raise_7 : decode b_R_raise 7 = .ok (.iload_n 2, 1) := by decide +kernel
theorem d_R_raise_8 : decode b_R_raise 8 = .ok (.i2l, 1) := by decide +kernel
theorem d_R_raise_9 : decode b_R_raise 9 = .ok (.ladd, 1) := by decide +kernel
theorem d_R_raise_10 : decode b_R_raise 10 = .ok (.lstore_n 3, 1) := by decide +kernel
theorem d_R_raise_11 : decode b_R_raise 11 = .ok (.lload_n 3, 1) := by decide +kernel
theorem d_R_raise_12 : decode b_R_raise 12 = .ok (.ldc2_w 21, 3) := by decide +kernel
theorem d_R_raise_15 : decode b_R_raise 15 = .ok (.lcmp, 1) := by decide +kernel
theorem d_R_raise_16 : decode b_R_raise 16 = .ok (.ifCond .gt 21, 3) := by decide +kernel
theorem d_R_raise_19 : decode b_R_raise 19 = .ok (.lload_n 3, 1) := by decide +kernel
theorem d_R_raise_20 : decode b_R_raise 20 = .ok (.ldc2_w 23, 3) := by decide +kernel
theorem d_R_raise_23 : decode b_R_raise 23 = .ok (.lcmp, 1) := by decide +kernel
theorem d_R_raise_24 : decode b_R_raise 24 = .ok (.ifCond .lt 13, 3) := by decide +kernel
theorem d_R_raise_27 : decode b_R_raise 27 = .ok (.aload_n 0, 1) := by decide +kernel
theorem d_R_raise_28 : decode b_R_raise 28 = .ok (.getfield 25, 3) := by decide +kernel
theorem d_R_raise_31 : decode b_R_raise 31 = .ok (.sipush 512, 3) := by decide +kernel
theorem d_R_raise_34 : decode b_R_raise 34 = .ok (.if_icmp .lt 5, 3) := by decide +kernel
theorem d_R_raise_37 : decode b_R_raise 37 = .ok (.iconst 0, 1) := by decide +kernel
theorem d_R_raise_38 : decode b_R_raise 38 = .ok (.ireturn, 1) := by decide +kernel
theorem d_R_raise_39 : decode b_R_raise 39 = .ok (.aload_n 0, 1) := by decide +kernel
theorem d_R_raise_40 : decode b_R_raise 40 = .ok (.getfield 9, 3) := by decide +kernel
theorem d_R_raise_43 : decode b_R_raise 43 = .ok (.iload_n 1, 1) := by decide +kernel
theorem d_R_raise_44 : decode b_R_raise 44 = .ok (.lload_n 3, 1) := by decide +kernel
theorem d_R_raise_45 : decode b_R_raise 45 = .ok (.l2i, 1) := by decide +kernel
theorem d_R_raise_46 : decode b_R_raise 46 = .ok (.iastore, 1) := by decide +kernel
theorem d_R_raise_47 : decode b_R_raise 47 = .ok (.aload_n 0, 1) := by decide +kernel
theorem d_R_raise_48 : decode b_R_raise 48 = .ok (.getfield 15, 3) := by decide +kernel
theorem d_R_raise_51 : decode b_R_raise 51 = .ok (.aload_n 0, 1) := by decide +kernel
theorem d_R_raise_52 : decode b_R_raise 52 = .ok (.getfield 25, 3) := by decide +kernel
theorem d_R_raise_55 : decode b_R_raise 55 = .ok (.iload_n 1, 1) := by decide +kernel
theorem d_R_raise_56 : decode b_R_raise 56 = .ok (.iastore, 1) := by decide +kernel
theorem d_R_raise_57 : decode b_R_raise 57 = .ok (.aload_n 0, 1) := by decide +kernel
theorem d_R_raise_58 : decode b_R_raise 58 = .ok (.getfield 18, 3) := by decide +kernel
theorem d_R_raise_61 : decode b_R_raise 61 = .ok (.aload_n 0, 1) := by decide +kernel
theorem d_R_raise_62 : decode b_R_raise 62 = .ok (.getfield 25, 3) := by decide +kernel
theorem d_R_raise_65 : decode b_R_raise 65 = .ok (.iload_n 2, 1) := by decide +kernel
theorem d_R_raise_66 : decode b_R_raise 66 = .ok (.iastore, 1) := by decide +kernel
theorem d_R_raise_67 : decode b_R_raise 67 = .ok (.aload_n 0, 1) := by decide +kernel
theorem d_R_raise_68 : decode b_R_raise 68 = .ok (.dup, 1) := by decide +kernel
theorem d_R_raise_69 : decode b_R_raise 69 = .ok (.getfield 25, 3) := by decide +kernel
theorem d_R_raise_72 : decode b_R_raise 72 = .ok (.iconst 1, 1) := by decide +kernel
theorem d_R_raise_73 : decode b_R_raise 73 = .ok (.iadd, 1) := by decide +kernel
theorem d_R_raise_74 : decode b_R_raise 74 = .ok (.putfield 25, 3) := by decide +kernel
theorem d_R_raise_77 : decode b_R_raise 77 = .ok (.iconst 1, 1) := by decide +kernel
theorem d_R_raise_78 : decode b_R_raise 78 = .ok (.ireturn, 1) := by decide +kernel
theorem d_R_takeBack_0 : decode b_R_takeBack 0 = .ok (.aload_n 0, 1) := by decide +kernel
theorem d_R_takeBack_1 : decode b_R_takeBack 1 = .ok (.getfield 25, 3) := by decide +kernel
theorem d_R_takeBack_4 : decode b_R_takeBack 4 = .ok (.ifCond .gt 5, 3) := by decide +kernel
theorem d_R_takeBack_7 : decode b_R_takeBack 7 = .ok (.iconst 0, 1) := by decide +kernel
theorem d_R_takeBack_8 : decode b_R_takeBack 8 = .ok (.ireturn, 1) := by decide +kernel
theorem d_R_takeBack_9 : decode b_R_takeBack 9 = .ok (.aload_n 0, 1) := by decide +kernel
theorem d_R_takeBack_10 : decode b_R_takeBack 10 = .ok (.dup, 1) := by decide +kernel
theorem d_R_takeBack_11 : decode b_R_takeBack 11 = .ok (.getfield 25, 3) := by decide +kernel
theorem d_R_takeBack_14 : decode b_R_takeBack 14 = .ok (.iconst 1, 1) := by decide +kernel
theorem d_R_takeBack_15 : decode b_R_takeBack 15 = .ok (.isub, 1) := by decide +kernel
theorem d_R_takeBack_16 : decode b_R_takeBack 16 = .ok (.putfield 25, 3) := by decide +kernel
theorem d_R_takeBack_19 : decode b_R_takeBack 19 = .ok (.aload_n 0, 1) := by decide +kernel
theorem d_R_takeBack_20 : decode b_R_takeBack 20 = .ok (.getfield 9, 3) := by decide +kernel
theorem d_R_takeBack_23 : decode b_R_takeBack 23 = .ok (.aload_n 0, 1) := by decide +kernel
theorem d_R_takeBack_24 : decode b_R_takeBack 24 = .ok (.getfield 15, 3) := by decide +kernel
theorem d_R_takeBack_27 : decode b_R_takeBack 27 = .ok (.aload_n 0, 1) := by decide +kernel
theorem d_R_takeBack_28 : decode b_R_takeBack 28 = .ok (.getfield 25, 3) := by decide +kernel
theorem d_R_takeBack_31 : decode b_R_takeBack 31 = .ok (.iaload, 1) := by decide +kernel
theorem d_R_takeBack_32 : decode b_R_takeBack 32 = .ok (.dup2, 1) := by decide +kernel
theorem d_R_takeBack_33 : decode b_R_takeBack 33 = .ok (.iaload, 1) := by decide +kernel
theorem d_R_takeBack_34 : decode b_R_takeBack 34 = .ok (.aload_n 0, 1) := by decide +kernel
theorem d_R_takeBack_35 : decode b_R_takeBack 35 = .ok (.getfield 18, 3) := by decide +kernel
theorem d_R_takeBack_38 : decode b_R_takeBack 38 = .ok (.aload_n 0, 1) := by decide +kernel
theorem d_R_takeBack_39 : decode b_R_takeBack 39 = .ok (.getfield 25, 3) := by decide +kernel
theorem d_R_takeBack_42 : decode b_R_takeBack 42 = .ok (.iaload, 1) := by decide +kernel
theorem d_R_takeBack_43 : decode b_R_takeBack 43 = .ok (.isub, 1) := by decide +kernel
theorem d_R_takeBack_44 : decode b_R_takeBack 44 = .ok (.iastore, 1) := by decide +kernel
theorem d_R_takeBack_45 : decode b_R_takeBack 45 = .ok (.iconst 1, 1) := by decide +kernel
theorem d_R_takeBack_46 : decode b_R_takeBack 46 = .ok (.ireturn, 1) := by decide +kernel
theorem d_R_changesLeft_0 : decode b_R_changesLeft 0 = .ok (.aload_n 0, 1) := by decide +kernel
theorem d_R_changesLeft_1 : decode b_R_changesLeft 1 = .ok (.getfield 25, 3) := by decide +kernel
theorem d_R_changesLeft_4 : decode b_R_changesLeft 4 = .ok (.ireturn, 1) := by decide +kernel
theorem d_R_filled_0 : decode b_R_filled 0 = .ok (.iconst 0, 1) := by decide +kernel
theorem d_R_filled_1 : decode b_R_filled 1 = .ok (.istore_n 1, 1) := by decide +kernel
theorem d_R_filled_2 : decode b_R_filled 2 = .ok (.iconst 0, 1) := by decide +kernel
theorem d_R_filled_3 : decode b_R_filled 3 = .ok (.istore_n 2, 1) := by decide +kernel
theorem d_R_filled_4 : decode b_R_filled 4 = .ok (.iload_n 2, 1) := by decide +kernel
theorem d_R_filled_5 : decode b_R_filled 5 = .ok (.aload_n 0, 1) := by decide +kernel
theorem d_R_filled_6 : decode b_R_filled 6 = .ok (.getfield 9, 3) := by decide +kernel
theorem d_R_filled_9 : decode b_R_filled 9 = .ok (.arraylength, 1) := by decide +kernel
theorem d_R_filled_10 : decode b_R_filled 10 = .ok (.if_icmp .ge 21, 3) := by decide +kernel
theorem d_R_filled_13 : decode b_R_filled 13 = .ok (.aload_n 0, 1) := by decide +kernel
theorem d_R_filled_14 : decode b_R_filled 14 = .ok (.getfield 9, 3) := by decide +kernel
theorem d_R_filled_17 : decode b_R_filled 17 = .ok (.iload_n 2, 1) := by decide +kernel
theorem d_R_filled_18 : decode b_R_filled 18 = .ok (.iaload, 1) := by decide +kernel
theorem d_R_filled_19 : decode b_R_filled 19 = .ok (.ifCond .eq 6, 3) := by decide +kernel
theorem d_R_filled_22 : decode b_R_filled 22 = .ok (.iinc 1 1, 3) := by decide +kernel
theorem d_R_filled_25 : decode b_R_filled 25 = .ok (.iinc 2 1, 3) := by decide +kernel
theorem d_R_filled_28 : decode b_R_filled 28 = .ok (.goto (-24), 3) := by decide +kernel
theorem d_R_filled_31 : decode b_R_filled 31 = .ok (.iload_n 1, 1) := by decide +kernel
theorem d_R_filled_32 : decode b_R_filled 32 = .ok (.ireturn, 1) := by decide +kernel
theorem d_T_init_0 : decode b_T_init 0 = .ok (.aload_n 0, 1) := by decide +kernel
theorem d_T_init_1 : decode b_T_init 1 = .ok (.invokespecial 1, 3) := by decide +kernel
theorem d_T_init_4 : decode b_T_init 4 = .ok (.aload_n 0, 1) := by decide +kernel
theorem d_T_init_5 : decode b_T_init 5 = .ok (.bipush 30, 2) := by decide +kernel
theorem d_T_init_7 : decode b_T_init 7 = .ok (.newarray .char, 2) := by decide +kernel
theorem d_T_init_9 : decode b_T_init 9 = .ok (.putfield 9, 3) := by decide +kernel
theorem d_T_init_12 : decode b_T_init 12 = .ok (.return_, 1) := by decide +kernel
theorem d_T_append_0 : decode b_T_append 0 = .ok (.aload_n 0, 1) := by decide +kernel
theorem d_T_append_1 : decode b_T_append 1 = .ok (.getfield 13, 3) := by decide +kernel
theorem d_T_append_4 : decode b_T_append 4 = .ok (.bipush 30, 2) := by decide +kernel
theorem d_T_append_6 : decode b_T_append 6 = .ok (.if_icmp .lt 5, 3) := by decide +kernel
theorem d_T_append_9 : decode b_T_append 9 = .ok (.iconst 0, 1) := by decide +kernel
theorem d_T_append_10 : decode b_T_append 10 = .ok (.ireturn, 1) := by decide +kernel
theorem d_T_append_11 : decode b_T_append 11 = .ok (.aload_n 0, 1) := by decide +kernel
theorem d_T_append_12 : decode b_T_append 12 = .ok (.getfield 9, 3) := by decide +kernel
theorem d_T_append_15 : decode b_T_append 15 = .ok (.aload_n 0, 1) := by decide +kernel
theorem d_T_append_16 : decode b_T_append 16 = .ok (.getfield 13, 3) := by decide +kernel
theorem d_T_append_19 : decode b_T_append 19 = .ok (.iload_n 1, 1) := by decide +kernel
theorem d_T_append_20 : decode b_T_append 20 = .ok (.castore, 1) := by decide +kernel
theorem d_T_append_21 : decode b_T_append 21 = .ok (.aload_n 0, 1) := by decide +kernel
theorem d_T_append_22 : decode b_T_append 22 = .ok (.dup, 1) := by decide +kernel
theorem d_T_append_23 : decode b_T_append 23 = .ok (.getfield 13, 3) := by decide +kernel
theorem d_T_append_26 : decode b_T_append 26 = .ok (.iconst 1, 1) := by decide +kernel
theorem d_T_append_27 : decode b_T_append 27 = .ok (.iadd, 1) := by decide +kernel
theorem d_T_append_28 : decode b_T_append 28 = .ok (.putfield 13, 3) := by decide +kernel
theorem d_T_append_31 : decode b_T_append 31 = .ok (.iconst 1, 1) := by decide +kernel
theorem d_T_append_32 : decode b_T_append 32 = .ok (.ireturn, 1) := by decide +kernel
theorem d_T_empty_0 : decode b_T_empty 0 = .ok (.aload_n 0, 1) := by decide +kernel
theorem d_T_empty_1 : decode b_T_empty 1 = .ok (.iconst 0, 1) := by decide +kernel
theorem d_T_empty_2 : decode b_T_empty 2 = .ok (.putfield 13, 3) := by decide +kernel
theorem d_T_empty_5 : decode b_T_empty 5 = .ok (.return_, 1) := by decide +kernel
theorem d_T_length_0 : decode b_T_length 0 = .ok (.aload_n 0, 1) := by decide +kernel
theorem d_T_length_1 : decode b_T_length 1 = .ok (.getfield 13, 3) := by decide +kernel
theorem d_T_length_4 : decode b_T_length 4 = .ok (.ireturn, 1) := by decide +kernel
theorem d_T_at_0 : decode b_T_at 0 = .ok (.iload_n 1, 1) := by decide +kernel
theorem d_T_at_1 : decode b_T_at 1 = .ok (.ifCond .lt 20, 3) := by decide +kernel
theorem d_T_at_4 : decode b_T_at 4 = .ok (.iload_n 1, 1) := by decide +kernel
theorem d_T_at_5 : decode b_T_at 5 = .ok (.aload_n 0, 1) := by decide +kernel
theorem d_T_at_6 : decode b_T_at 6 = .ok (.getfield 13, 3) := by decide +kernel
theorem d_T_at_9 : decode b_T_at 9 = .ok (.if_icmp .ge 12, 3) := by decide +kernel
theorem d_T_at_12 : decode b_T_at 12 = .ok (.aload_n 0, 1) := by decide +kernel
theorem d_T_at_13 : decode b_T_at 13 = .ok (.getfield 9, 3) := by decide +kernel
theorem d_T_at_16 : decode b_T_at 16 = .ok (.iload_n 1, 1) := by decide +kernel
theorem d_T_at_17 : decode b_T_at 17 = .ok (.caload, 1) := by decide +kernel
theorem d_T_at_18 : decode b_T_at 18 = .ok (.goto 4, 3) := by decide +kernel
theorem d_T_at_21 : decode b_T_at 21 = .ok (.iconst 0, 1) := by decide +kernel
theorem d_T_at_22 : decode b_T_at 22 = .ok (.ireturn, 1) := by decide +kernel
theorem d_T_isDigit_0 : decode b_T_isDigit 0 = .ok (.iload_n 0, 1) := by decide +kernel
theorem d_T_isDigit_1 : decode b_T_isDigit 1 = .ok (.bipush 48, 2) := by decide +kernel
theorem d_T_isDigit_3 : decode b_T_isDigit 3 = .ok (.if_icmp .lt 13, 3) := by decide +kernel
theorem d_T_isDigit_6 : decode b_T_isDigit 6 = .ok (.iload_n 0, 1) := by decide +kernel
theorem d_T_isDigit_7 : decode b_T_isDigit 7 = .ok (.bipush 57, 2) := by decide +kernel
theorem d_T_isDigit_9 : decode b_T_isDigit 9 = .ok (.if_icmp .gt 7, 3) := by decide +kernel
theorem d_T_isDigit_12 : decode b_T_isDigit 12 = .ok (.iconst 1, 1) := by decide +kernel
theorem d_T_isDigit_13 : decode b_T_isDigit 13 = .ok (.goto 4, 3) := by decide +kernel
theorem d_T_isDigit_16 : decode b_T_isDigit 16 = .ok (.iconst 0, 1) := by decide +kernel
theorem d_T_isDigit_17 : decode b_T_isDigit 17 = .ok (.ireturn, 1) := by decide +kernel
theorem d_T_relationOf_0 : decode b_T_relationOf 0 = .ok (.iload_n 0, 1) := by decide +kernel
theorem d_T_relationOf_1 : decode b_T_relationOf 1 = .ok (.bipush 82, 2) := by decide +kernel
theorem d_T_relationOf_3 : decode b_T_relationOf 3 = .ok (.if_icmp .lt 16, 3) := by decide +kernel
theorem d_T_relationOf_6 : decode b_T_relationOf 6 = .ok (.iload_n 0, 1) := by decide +kernel
theorem d_T_relationOf_7 : decode b_T_relationOf 7 = .ok (.bipush 84, 2) := by decide +kernel
theorem d_T_relationOf_9 : decode b_T_relationOf 9 = .ok (.if_icmp .gt 10, 3) := by decide +kernel
theorem d_T_relationOf_12 : decode b_T_relationOf 12 = .ok (.iload_n 0, 1) := by decide +kernel
theorem d_T_relationOf_13 : decode b_T_relationOf 13 = .ok (.bipush 82, 2) := by decide +kernel
theorem d_T_relationOf_15 : decode b_T_relationOf 15 = .ok (.isub, 1) := by decide +kernel
theorem d_T_relationOf_16 : decode b_T_relationOf 16 = .ok (.goto 4, 3) := by decide +kernel
theorem d_T_relationOf_19 : decode b_T_relationOf 19 = .ok (.iconst (-1), 1) := by decide +kernel
theorem d_T_relationOf_20 : decode b_T_relationOf 20 = .ok (.ireturn, 1) := by decide +kernel
theorem d_T_columnOf_0 : decode b_T_columnOf 0 = .ok (.iload_n 0, 1) := by decide +kernel
theorem d_T_columnOf_1 : decode b_T_columnOf 1 = .ok (.bipush 65, 2) := by decide +kernel
theorem d_T_columnOf_3 : decode b_T_columnOf 3 = .ok (.if_icmp .lt 16, 3) := by decide +kernel
theorem d_T_columnOf_6 : decode b_T_columnOf 6 = .ok (.iload_n 0, 1) := by decide +kernel
theorem d_T_columnOf_7 : decode b_T_columnOf 7 = .ok (.bipush 68, 2) := by decide +kernel
theorem d_T_columnOf_9 : decode b_T_columnOf 9 = .ok (.if_icmp .gt 10, 3) := by decide +kernel
theorem d_T_columnOf_12 : decode b_T_columnOf 12 = .ok (.iload_n 0, 1) := by decide +kernel
theorem d_T_columnOf_13 : decode b_T_columnOf 13 = .ok (.bipush 65, 2) := by decide +kernel
theorem d_T_columnOf_15 : decode b_T_columnOf 15 = .ok (.isub, 1) := by decide +kernel
theorem d_T_columnOf_16 : decode b_T_columnOf 16 = .ok (.goto 4, 3) := by decide +kernel
theorem d_T_columnOf_19 : decode b_T_columnOf 19 = .ok (.iconst (-1), 1) := by decide +kernel
theorem d_T_columnOf_20 : decode b_T_columnOf 20 = .ok (.ireturn, 1) := by decide +kernel
theorem d_A_fill_0 : decode b_A_fill 0 = .ok (.iconst 0, 1) := by decide +kernel
theorem d_A_fill_1 : decode b_A_fill 1 = .ok (.istore_n 2, 1) := by decide +kernel
theorem d_A_fill_2 : decode b_A_fill 2 = .ok (.aload_n 0, 1) := by decide +kernel
theorem d_A_fill_3 : decode b_A_fill 3 = .ok (.arraylength, 1) := by decide +kernel
theorem d_A_fill_4 : decode b_A_fill 4 = .ok (.istore_n 3, 1) := by decide +kernel
theorem d_A_fill_5 : decode b_A_fill 5 = .ok (.iload_n 2, 1) := by decide +kernel
theorem d_A_fill_6 : decode b_A_fill 6 = .ok (.iload_n 3, 1) := by decide +kernel
theorem d_A_fill_7 : decode b_A_fill 7 = .ok (.if_icmp .ge 13, 3) := by decide +kernel
theorem d_A_fill_10 : decode b_A_fill 10 = .ok (.aload_n 0, 1) := by decide +kernel
