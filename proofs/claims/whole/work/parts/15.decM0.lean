theorem d_M_init_0 : decode b_M_init 0 = .ok (.aload_n 0, 1) := by decide +kernel
theorem d_M_init_1 : decode b_M_init 1 = .ok (.invokespecial 1, 3) := by decide +kernel
theorem d_M_init_4 : decode b_M_init 4 = .ok (.aload_n 0, 1) := by decide +kernel
theorem d_M_init_5 : decode b_M_init 5 = .ok (.bipush 108, 2) := by decide +kernel
theorem d_M_init_7 : decode b_M_init 7 = .ok (.newarray .int, 2) := by decide +kernel
theorem d_M_init_9 : decode b_M_init 9 = .ok (.putfield 7, 3) := by decide +kernel
theorem d_M_init_12 : decode b_M_init 12 = .ok (.aload_n 0, 1) := by decide +kernel
theorem d_M_init_13 : decode b_M_init 13 = .ok (.sipush 520, 3) := by decide +kernel
theorem d_M_init_16 : decode b_M_init 16 = .ok (.newarray .int, 2) := by decide +kernel
theorem d_M_init_18 : decode b_M_init 18 = .ok (.putfield 13, 3) := by decide +kernel
theorem d_M_init_21 : decode b_M_init 21 = .ok (.aload_n 0, 1) := by decide +kernel
theorem d_M_init_22 : decode b_M_init 22 = .ok (.sipush 520, 3) := by decide +kernel
theorem d_M_init_25 : decode b_M_init 25 = .ok (.newarray .int, 2) := by decide +kernel
theorem d_M_init_27 : decode b_M_init 27 = .ok (.putfield 16, 3) := by decide +kernel
theorem d_M_init_30 : decode b_M_init 30 = .ok (.aload_n 0, 1) := by decide +kernel
theorem d_M_init_31 : decode b_M_init 31 = .ok (.bipush 30, 2) := by decide +kernel
theorem d_M_init_33 : decode b_M_init 33 = .ok (.newarray .int, 2) := by decide +kernel
theorem d_M_init_35 : decode b_M_init 35 = .ok (.putfield 19, 3) := by decide +kernel
theorem d_M_init_38 : decode b_M_init 38 = .ok (.aload_n 0, 1) := by decide +kernel
theorem d_M_init_39 : decode b_M_init 39 = .ok (.bipush 10, 2) := by decide +kernel
theorem d_M_init_41 : decode b_M_init 41 = .ok (.newarray .int, 2) := by decide +kernel
theorem d_M_init_43 : decode b_M_init 43 = .ok (.putfield 22, 3) := by decide +kernel
theorem d_M_init_46 : decode b_M_init 46 = .ok (.aload_n 0, 1) := by decide +kernel
theorem d_M_init_47 : decode b_M_init 47 = .ok (.bipush 10, 2) := by decide +kernel
theorem d_M_init_49 : decode b_M_init 49 = .ok (.newarray .int, 2) := by decide +kernel
theorem d_M_init_51 : decode b_M_init 51 = .ok (.putfield 25, 3) := by decide +kernel
theorem d_M_init_54 : decode b_M_init 54 = .ok (.aload_n 0, 1) := by decide +kernel
theorem d_M_init_55 : decode b_M_init 55 = .ok (.bipush 10, 2) := by decide +kernel
theorem d_M_init_57 : decode b_M_init 57 = .ok (.newarray .int, 2) := by decide +kernel
theorem d_M_init_59 : decode b_M_init 59 = .ok (.putfield 28, 3) := by decide +kernel
theorem d_M_init_62 : decode b_M_init 62 = .ok (.aload_n 0, 1) := by decide +kernel
theorem d_M_init_63 : decode b_M_init 63 = .ok (.iconst 4, 1) := by decide +kernel
theorem d_M_init_64 : decode b_M_init 64 = .ok (.newarray .boolean, 2) := by decide +kernel
theorem d_M_init_66 : decode b_M_init 66 = .ok (.putfield 31, 3) := by decide +kernel
theorem d_M_init_69 : decode b_M_init 69 = .ok (.aload_n 0, 1) := by decide +kernel
theorem d_M_init_70 : decode b_M_init 70 = .ok (.iconst 4, 1) := by decide +kernel
theorem d_M_init_71 : decode b_M_init 71 = .ok (.newarray .int, 2) := by decide +kernel
theorem d_M_init_73 : decode b_M_init 73 = .ok (.putfield 35, 3) := by decide +kernel
theorem d_M_init_76 : decode b_M_init 76 = .ok (.aload_n 0, 1) := by decide +kernel
theorem d_M_init_77 : decode b_M_init 77 = .ok (.iconst 4, 1) := by decide +kernel
theorem d_M_init_78 : decode b_M_init 78 = .ok (.newarray .int, 2) := by decide +kernel
theorem d_M_init_80 : decode b_M_init 80 = .ok (.putfield 38, 3) := by decide +kernel
theorem d_M_init_83 : decode b_M_init 83 = .ok (.aload_n 0, 1) := by decide +kernel
theorem d_M_init_84 : decode b_M_init 84 = .ok (.iconst 4, 1) := by decide +kernel
theorem d_M_init_85 : decode b_M_init 85 = .ok (.newarray .int, 2) := by decide +kernel
theorem d_M_init_87 : decode b_M_init 87 = .ok (.putfield 41, 3) := by decide +kernel
theorem d_M_init_90 : decode b_M_init 90 = .ok (.aload_n 0, 1) := by decide +kernel
theorem d_M_init_91 : decode b_M_init 91 = .ok (.iconst 4, 1) := by decide +kernel
theorem d_M_init_92 : decode b_M_init 92 = .ok (.newarray .int, 2) := by decide +kernel
theorem d_M_init_94 : decode b_M_init 94 = .ok (.putfield 44, 3) := by decide +kernel
theorem d_M_init_97 : decode b_M_init 97 = .ok (.aload_n 0, 1) := by decide +kernel
theorem d_M_init_98 : decode b_M_init 98 = .ok (.bipush 40, 2) := by decide +kernel
theorem d_M_init_100 : decode b_M_init 100 = .ok (.newarray .int, 2) := by decide +kernel
theorem d_M_init_102 : decode b_M_init 102 = .ok (.putfield 47, 3) := by decide +kernel
theorem d_M_init_105 : decode b_M_init 105 = .ok (.aload_n 0, 1) := by decide +kernel
theorem d_M_init_106 : decode b_M_init 106 = .ok (.sipush 324, 3) := by decide +kernel
theorem d_M_init_109 : decode b_M_init 109 = .ok (.newarray .int, 2) := by decide +kernel
theorem d_M_init_111 : decode b_M_init 111 = .ok (.putfield 50, 3) := by decide +kernel
theorem d_M_init_114 : decode b_M_init 114 = .ok (.aload_n 0, 1) := by decide +kernel
theorem d_M_init_115 : decode b_M_init 115 = .ok (.sipush 729, 3) := by decide +kernel
theorem d_M_init_118 : decode b_M_init 118 = .ok (.newarray .int, 2) := by decide +kernel
theorem d_M_init_120 : decode b_M_init 120 = .ok (.putfield 53, 3) := by decide +kernel
theorem d_M_init_123 : decode b_M_init 123 = .ok (.aload_n 0, 1) := by decide +kernel
theorem d_M_init_124 : decode b_M_init 124 = .ok (.sipush 729, 3) := by decide +kernel
theorem d_M_init_127 : decode b_M_init 127 = .ok (.newarray .int, 2) := by decide +kernel
theorem d_M_init_129 : decode b_M_init 129 = .ok (.putfield 56, 3) := by decide +kernel
theorem d_M_init_132 : decode b_M_init 132 = .ok (.aload_n 0, 1) := by decide +kernel
theorem d_M_init_133 : decode b_M_init 133 = .ok (.bipush 9, 2) := by decide +kernel
theorem d_M_init_135 : decode b_M_init 135 = .ok (.newarray .boolean, 2) := by decide +kernel
theorem d_M_init_137 : decode b_M_init 137 = .ok (.putfield 59, 3) := by decide +kernel
theorem d_M_init_140 : decode b_M_init 140 = .ok (.aload_n 0, 1) := by decide +kernel
theorem d_M_init_141 : decode b_M_init 141 = .ok (.bipush 9, 2) := by decide +kernel
theorem d_M_init_143 : decode b_M_init 143 = .ok (.newarray .int, 2) := by decide +kernel
theorem d_M_init_145 : decode b_M_init 145 = .ok (.putfield 62, 3) := by decide +kernel
theorem d_M_init_148 : decode b_M_init 148 = .ok (.aload_n 0, 1) := by decide +kernel
theorem d_M_init_149 : decode b_M_init 149 = .ok (.bipush 9, 2) := by decide +kernel
theorem d_M_init_151 : decode b_M_init 151 = .ok (.newarray .int, 2) := by decide +kernel
theorem d_M_init_153 : decode b_M_init 153 = .ok (.putfield 65, 3) := by decide +kernel
theorem d_M_init_156 : decode b_M_init 156 = .ok (.aload_n 0, 1) := by decide +kernel
theorem d_M_init_157 : decode b_M_init 157 = .ok (.bipush 81, 2) := by decide +kernel
theorem d_M_init_159 : decode b_M_init 159 = .ok (.newarray .int, 2) := by decide +kernel
theorem d_M_init_161 : decode b_M_init 161 = .ok (.putfield 68, 3) := by decide +kernel
theorem d_M_init_164 : decode b_M_init 164 = .ok (.aload_n 0, 1) := by decide +kernel
theorem d_M_init_165 : decode b_M_init 165 = .ok (.sipush 625, 3) := by decide +kernel
theorem d_M_init_168 : decode b_M_init 168 = .ok (.newarray .int, 2) := by decide +kernel
theorem d_M_init_170 : decode b_M_init 170 = .ok (.putfield 71, 3) := by decide +kernel
theorem d_M_init_173 : decode b_M_init 173 = .ok (.return_, 1) := by decide +kernel
theorem d_M_in_0 : decode b_M_in 0 = .ok (.iload_n 0, 1) := by decide +kernel
theorem d_M_in_1 : decode b_M_in 1 = .ok (.ifCond .lt 12, 3) := by decide +kernel
theorem d_M_in_4 : decode b_M_in 4 = .ok (.iload_n 0, 1) := by decide +kernel
theorem d_M_in_5 : decode b_M_in 5 = .ok (.iload_n 1, 1) := by decide +kernel
theorem d_M_in_6 : decode b_M_in 6 = .ok (.if_icmp .ge 7, 3) := by decide +kernel
theorem d_M_in_9 : decode b_M_in 9 = .ok (.iconst 1, 1) := by decide +kernel
theorem d_M_in_10 : decode b_M_in 10 = .ok (.goto 4, 3) := by decide +kernel
theorem d_M_in_13 : decode b_M_in 13 = .ok (.iconst 0, 1) := by decide +kernel
theorem d_M_in_14 : decode b_M_in 14 = .ok (.ireturn, 1) := by decide +kernel
theorem d_M_letter_0 : decode b_M_letter 0 = .ok (.iload_n 0, 1) := by decide +kernel
theorem d_M_letter_1 : decode b_M_letter 1 = .ok (.bipush 65, 2) := by decide +kernel
theorem d_M_letter_3 : decode b_M_letter 3 = .ok (.if_icmp .lt 16, 3) := by decide +kernel
theorem d_M_letter_6 : decode b_M_letter 6 = .ok (.iload_n 0, 1) := by decide +kernel
theorem d_M_letter_7 : decode b_M_letter 7 = .ok (.bipush 68, 2) := by decide +kernel
theorem d_M_letter_9 : decode b_M_letter 9 = .ok (.if_icmp .gt 10, 3) := by decide +kernel
theorem d_M_letter_12 : decode b_M_letter 12 = .ok (.iload_n 0, 1) := by decide +kernel
theorem d_M_letter_13 : decode b_M_letter 13 = .ok (.bipush 65, 2) := by decide +kernel
theorem d_M_letter_15 : decode b_M_letter 15 = .ok (.isub, 1) := by decide +kernel
theorem d_M_letter_16 : decode b_M_letter 16 = .ok (.goto 4, 3) := by decide +kernel
theorem d_M_letter_19 : decode b_M_letter 19 = .ok (.iconst (-1), 1) := by decide +kernel
theorem d_M_letter_20 : decode b_M_letter 20 = .ok (.ireturn, 1) := by decide +kernel
theorem d_M_has_0 : decode b_M_has 0 = .ok (.iload_n 1, 1) := by decide +kernel
theorem d_M_has_1 : decode b_M_has 1 = .ok (.invokestatic 74, 3) := by decide +kernel
theorem d_M_has_4 : decode b_M_has 4 = .ok (.istore_n 2, 1) := by decide +kernel
theorem d_M_has_5 : decode b_M_has 5 = .ok (.aload_n 0, 1) := by decide +kernel
theorem d_M_has_6 : decode b_M_has 6 = .ok (.getfield 78, 3) := by decide +kernel
theorem d_M_has_9 : decode b_M_has 9 = .ok (.iconst 1, 1) := by decide +kernel
theorem d_M_has_10 : decode b_M_has 10 = .ok (.iand, 1) := by decide +kernel
theorem d_M_has_11 : decode b_M_has 11 = .ok (.iconst 3, 1) := by decide +kernel
theorem d_M_has_12 : decode b_M_has 12 = .ok (.imul, 1) := by decide +kernel
theorem d_M_has_13 : decode b_M_has 13 = .ok (.aload_n 0, 1) := by decide +kernel
theorem d_M_has_14 : decode b_M_has 14 = .ok (.getfield 78, 3) := by decide +kernel
theorem d_M_has_17 : decode b_M_has 17 = .ok (.iconst 1, 1) := by decide +kernel
theorem d_M_has_18 : decode b_M_has 18 = .ok (.ishr, 1) := by decide +kernel
theorem d_M_has_19 : decode b_M_has 19 = .ok (.iconst 1, 1) := by decide +kernel
theorem d_M_has_20 : decode b_M_has 20 = .ok (.iand, 1) := by decide +kernel
theorem d_M_has_21 : decode b_M_has 21 = .ok (.bipush 6, 2) := by decide +kernel
theorem d_M_has_23 : decode b_M_has 23 = .ok (.imul, 1) := by decide +kernel
theorem d_M_has_24 : decode b_M_has 24 = .ok (.ior, 1) := by decide +kernel
theorem d_M_has_25 : decode b_M_has 25 = .ok (.aload_n 0, 1) := by decide +kernel
theorem d_M_has_26 : decode b_M_has 26 = .ok (.getfield 78, 3) := by decide +kernel
theorem d_M_has_29 : decode b_M_has 29 = .ok (.iconst 2, 1) := by decide +kernel
theorem d_M_has_30 : decode b_M_has 30 = .ok (.ishr, 1) := by decide +kernel
theorem d_M_has_31 : decode b_M_has 31 = .ok (.iconst 1, 1) := by decide +kernel
theorem d_M_has_32 : decode b_M_has 32 = .ok (.iand, 1) := by decide +kernel
theorem d_M_has_33 : decode b_M_has 33 = .ok (.bipush 12, 2) := by decide +kernel
theorem d_M_has_35 : decode b_M_has 35 = .ok (.imul, 1) := by decide +kernel
theorem d_M_has_36 : decode b_M_has 36 = .ok (.ior, 1) := by decide +kernel
theorem d_M_has_37 : decode b_M_has 37 = .ok (.istore_n 3, 1) := by decide +kernel
theorem d_M_has_38 : decode b_M_has 38 = .ok (.iload_n 2, 1) := by decide +kernel
theorem d_M_has_39 : decode b_M_has 39 = .ok (.ifCond .lt 16, 3) := by decide +kernel
theorem d_M_has_42 : decode b_M_has 42 = .ok (.iload_n 3, 1) := by decide +kernel
theorem d_M_has_43 : decode b_M_has 43 = .ok (.iload_n 2, 1) := by decide +kernel
theorem d_M_has_44 : decode b_M_has 44 = .ok (.ishr, 1) := by decide +kernel
theorem d_M_has_45 : decode b_M_has 45 = .ok (.iconst 1, 1) := by decide +kernel
theorem d_M_has_46 : decode b_M_has 46 = .ok (.iand, 1) := by decide +kernel
theorem d_M_has_47 : decode b_M_has 47 = .ok (.iconst 1, 1) := by decide +kernel
theorem d_M_has_48 : decode b_M_has 48 = .ok (.if_icmp .ne 7, 3) := by decide +kernel
theorem d_M_has_51 : decode b_M_has 51 = .ok (.iconst 1, 1) := by decide +kernel
theorem d_M_has_52 : decode b_M_has 52 = .ok (.goto 4, 3) := by decide +kernel
theorem d_M_has_55 : decode b_M_has 55 = .ok (.iconst 0, 1) := by decide +kernel
theorem d_M_has_56 : decode b_M_has 56 = .ok (.ireturn, 1) := by decide +kernel
theorem d_M_at_0 : decode b_M_at 0 = .ok (.iload_n 1, 1) := by decide +kernel
theorem d_M_at_1 : decode b_M_at 1 = .ok (.aload_n 0, 1) := by decide +kernel
theorem d_M_at_2 : decode b_M_at 2 = .ok (.getfield 82, 3) := by decide +kernel
theorem d_M_at_5 : decode b_M_at 5 = .ok (.if_icmp .ge 12, 3) := by decide +kernel
theorem d_M_at_8 : decode b_M_at 8 = .ok (.aload_n 0, 1) := by decide +kernel
theorem d_M_at_9 : decode b_M_at 9 = .ok (.getfield 19, 3) := by decide +kernel
theorem d_M_at_12 : decode b_M_at 12 = .ok (.iload_n 1, 1) := by decide +kernel
theorem d_M_at_13 : decode b_M_at 13 = .ok (.iaload, 1) := by decide +kernel
theorem d_M_at_14 : decode b_M_at 14 = .ok (.goto 4, 3) := by decide +kernel
theorem d_M_at_17 : decode b_M_at 17 = .ok (.iconst (-1), 1) := by decide +kernel
theorem d_M_at_18 : decode b_M_at 18 = .ok (.ireturn, 1) := by decide +kernel
theorem d_M_look_0 : decode b_M_look 0 = .ok (.iconst 0, 1) := by decide +kernel
theorem d_M_look_1 : decode b_M_look 1 = .ok (.istore_n 3, 1) := by decide +kernel
theorem d_M_look_2 : decode b_M_look 2 = .ok (.iload_n 2, 1) := by decide +kernel
theorem d_M_look_3 : decode b_M_look 3 = .ok (.istore 4, 2) := by decide +kernel
theorem d_M_look_5 : decode b_M_look 5 = .ok (.iload 4, 2) := by decide +kernel
theorem d_M_look_7 : decode b_M_look 7 = .ok (.iload_n 2, 1) := by decide +kernel
theorem d_M_look_8 : decode b_M_look 8 = .ok (.bipush 81, 2) := by decide +kernel
theorem d_M_look_10 : decode b_M_look 10 = .ok (.iadd, 1) := by decide +kernel
theorem d_M_look_11 : decode b_M_look 11 = .ok (.if_icmp .ge 61, 3) := by decide +kernel
theorem d_M_look_14 : decode b_M_look 14 = .ok (.iload_n 1, 1) := by decide +kernel
theorem d_M_look_15 : decode b_M_look 15 = .ok (.ifCond .eq 13, 3) := by decide +kernel
theorem d_M_look_18 : decode b_M_look 18 = .ok (.aload_n 0, 1) := by decide +kernel
theorem d_M_look_19 : decode b_M_look 19 = .ok (.getfield 53, 3) := by decide +kernel
theorem d_M_look_22 : decode b_M_look 22 = .ok (.iload 4, 2) := by decide +kernel
theorem d_M_look_24 : decode b_M_look 24 = .ok (.iaload, 1) := by decide +kernel
theorem d_M_look_25 : decode b_M_look 25 = .ok (.goto 10, 3) := by decide +kernel
theorem d_M_look_28 : decode b_M_look 28 = .ok (.aload_n 0, 1) := by decide +kernel
theorem d_M_look_29 : decode b_M_look 29 = .ok (.getfield 56, 3) := by decide +kernel
theorem d_M_look_32 : decode b_M_look 32 = .ok (.iload 4, 2) := by decide +kernel
theorem d_M_look_34 : decode b_M_look 34 = .ok (.iaload, 1) := by decide +kernel
theorem d_M_look_35 : decode b_M_look 35 = .ok (.istore 5, 2) := by decide +kernel
theorem d_M_look_37 : decode b_M_look 37 = .ok (.iload 5, 2) := by decide +kernel
theorem d_M_look_39 : decode b_M_look 39 = .ok (.ifCond .eq 6, 3) := by decide +kernel
theorem d_M_look_42 : decode b_M_look 42 = .ok (.iinc 3 1, 3) := by decide +kernel
theorem d_M_look_45 : decode b_M_look 45 = .ok (.iload 5, 2) := by decide +kernel
theorem d_M_look_47 : decode b_M_look 47 = .ok (.sipush 1000, 3) := by decide +kernel
theorem d_M_look_50 : decode b_M_look 50 = .ok (.if_icmp .gt 11, 3) := by decide +kernel
theorem d_M_look_53 : decode b_M_look 53 = .ok (.iload 5, 2) := by decide +kernel
theorem d_M_look_55 : decode b_M_look 55 = .ok (.sipush (-1000), 3) := by decide +kernel
theorem d_M_look_58 : decode b_M_look 58 = .ok (.if_icmp .ge 8, 3) := by decide +kernel
theorem d_M_look_61 : decode b_M_look 61 = .ok (.aload_n 0, 1) := by decide +kernel
theorem d_M_look_62 : decode b_M_look 62 = .ok (.iconst 1, 1) := by decide +kernel
theorem d_M_look_63 : decode b_M_look 63 = .ok (.putfield 85, 3) := by decide +kernel
theorem d_M_look_66 : decode b_M_look 66 = .ok (.iinc 4 1, 3) := by decide +kernel
theorem d_M_look_69 : decode b_M_look 69 = .ok (.goto (-64), 3) := by decide +kernel
theorem d_M_look_72 : decode b_M_look 72 = .ok (.iload_n 3, 1) := by decide +kernel
theorem d_M_look_73 : decode b_M_look 73 = .ok (.bipush 12, 2) := by decide +kernel
theorem d_M_look_75 : decode b_M_look 75 = .ok (.if_icmp .le 8, 3) := by decide +kernel
theorem d_M_look_78 : decode b_M_look 78 = .ok (.aload_n 0, 1) := by decide +kernel
theorem d_M_look_79 : decode b_M_look 79 = .ok (.iconst 1, 1) := by decide +kernel
theorem d_M_look_80 : decode b_M_look 80 = .ok (.putfield 85, 3) := by decide +kernel
theorem d_M_look_83 : decode b_M_look 83 = .ok (.return_, 1) := by decide +kernel
theorem d_M_wide_0 : decode b_M_wide 0 = .ok (.iload_n 0, 1) := by decide +kernel
theorem d_M_wide_1 : decode b_M_wide 1 = .ok (.bipush 27, 2) := by decide +kernel
theorem d_M_wide_3 : decode b_M_wide 3 = .ok (.idiv, 1) := by decide +kernel
theorem d_M_wide_4 : decode b_M_wide 4 = .ok (.bipush 125, 2) := by decide +kernel
theorem d_M_wide_6 : decode b_M_wide 6 = .ok (.imul, 1) := by decide +kernel
theorem d_M_wide_7 : decode b_M_wide 7 = .ok (.iload_n 0, 1) := by decide +kernel
theorem d_M_wide_8 : decode b_M_wide 8 = .ok (.bipush 9, 2) := by decide +kernel
theorem d_M_wide_10 : decode b_M_wide 10 = .ok (.idiv, 1) := by decide +kernel
theorem d_M_wide_11 : decode b_M_wide 11 = .ok (.iconst 3, 1) := by decide +kernel
theorem d_M_wide_12 : decode b_M_wide 12 = .ok (.irem, 1) := by decide +kernel
theorem d_M_wide_13 : decode b_M_wide 13 = .ok (.bipush 25, 2) := by decide +kernel
theorem d_M_wide_15 : decode b_M_wide 15 = .ok (.imul, 1) := by decide +kernel
theorem d_M_wide_16 : decode b_M_wide 16 = .ok (.iadd, 1) := by decide +kernel
theorem d_M_wide_17 : decode b_M_wide 17 = .ok (.iload_n 0, 1) := by decide +kernel
theorem d_M_wide_18 : decode b_M_wide 18 = .ok (.iconst 3, 1) := by decide +kernel
theorem d_M_wide_19 : decode b_M_wide 19 = .ok (.idiv, 1) := by decide +kernel
theorem d_M_wide_20 : decode b_M_wide 20 = .ok (.iconst 3, 1) := by decide +kernel
theorem d_M_wide_21 : decode b_M_wide 21 = .ok (.irem, 1) := by decide +kernel
theorem d_M_wide_22 : decode b_M_wide 22 = .ok (.iconst 5, 1) := by decide +kernel
theorem d_M_wide_23 : decode b_M_wide 23 = .ok (.imul, 1) := by decide +kernel
theorem d_M_wide_24 : decode b_M_wide 24 = .ok (.iadd, 1) := by decide +kernel
theorem d_M_wide_25 : decode b_M_wide 25 = .ok (.iload_n 0, 1) := by decide +kernel
theorem d_M_wide_26 : decode b_M_wide 26 = .ok (.iconst 3, 1) := by decide +kernel
theorem d_M_wide_27 : decode b_M_wide 27 = .ok (.irem, 1) := by decide +kernel
theorem d_M_wide_28 : decode b_M_wide 28 = .ok (.iadd, 1) := by decide +kernel
theorem d_M_wide_29 : decode b_M_wide 29 = .ok (.ireturn, 1) := by decide +kernel
theorem d_M_begin_0 : decode b_M_begin 0 = .ok (.iconst 0, 1) := by decide +kernel
theorem d_M_begin_1 : decode b_M_begin 1 = .ok (.istore_n 2, 1) := by decide +kernel
theorem d_M_begin_2 : decode b_M_begin 2 = .ok (.iload_n 2, 1) := by decide +kernel
theorem d_M_begin_3 : decode b_M_begin 3 = .ok (.bipush 81, 2) := by decide +kernel
theorem d_M_begin_5 : decode b_M_begin 5 = .ok (.if_icmp .ge 21, 3) := by decide +kernel
theorem d_M_begin_8 : decode b_M_begin 8 = .ok (.aload_n 0, 1) := by decide +kernel
theorem d_M_begin_9 : decode b_M_begin 9 = .ok (.getfield 53, 3) := by decide +kernel
theorem d_M_begin_12 : decode b_M_begin 12 = .ok (.bipush 81, 2) := by decide +kernel
theorem d_M_begin_14 : decode b_M_begin 14 = .ok (.iload_n 1, 1) := by decide +kernel
theorem d_M_begin_15 : decode b_M_begin 15 = .ok (.imul, 1) := by decide +kernel
theorem d_M_begin_16 : decode b_M_begin 16 = .ok (.iload_n 2, 1) := by decide +kernel
theorem d_M_begin_17 : decode b_M_begin 17 = .ok (.iadd, 1) := by decide +kernel
theorem d_M_begin_18 : decode b_M_begin 18 = .ok (.iconst 0, 1) := by decide +kernel
theorem d_M_begin_19 : decode b_M_begin 19 = .ok (.iastore, 1) := by decide +kernel
theorem d_M_begin_20 : decode b_M_begin 20 = .ok (.iinc 2 1, 3) := by decide +kernel
theorem d_M_begin_23 : decode b_M_begin 23 = .ok (.goto (-21), 3) := by decide +kernel
theorem d_M_begin_26 : decode b_M_begin 26 = .ok (.aload_n 0, 1) := by decide +kernel
theorem d_M_begin_27 : decode b_M_begin 27 = .ok (.getfield 59, 3) := by decide +kernel
theorem d_M_begin_30 : decode b_M_begin 30 = .ok (.iload_n 1, 1) := by decide +kernel
theorem d_M_begin_31 : decode b_M_begin 31 = .ok (.iconst 0, 1) := by decide +kernel
theorem d_M_begin_32 : decode b_M_begin 32 = .ok (.bastore, 1) := by decide +kernel
theorem d_M_begin_33 : decode b_M_begin 33 = .ok (.aload_n 0, 1) := by decide +kernel
theorem d_M_begin_34 : decode b_M_begin 34 = .ok (.getfield 62, 3) := by decide +kernel
theorem d_M_begin_37 : decode b_M_begin 37 = .ok (.iload_n 1, 1) := by decide +kernel
theorem d_M_begin_38 : decode b_M_begin 38 = .ok (.iconst 1, 1) := by decide +kernel
theorem d_M_begin_39 : decode b_M_begin 39 = .ok (.iastore, 1) := by decide +kernel
theorem d_M_begin_40 : decode b_M_begin 40 = .ok (.aload_n 0, 1) := by decide +kernel
theorem d_M_begin_41 : decode b_M_begin 41 = .ok (.getfield 65, 3) := by decide +kernel
theorem d_M_begin_44 : decode b_M_begin 44 = .ok (.iload_n 1, 1) := by decide +kernel
theorem d_M_begin_45 : decode b_M_begin 45 = .ok (.iconst 0, 1) := by decide +kernel
theorem d_M_begin_46 : decode b_M_begin 46 = .ok (.iastore, 1) := by decide +kernel
theorem d_M_begin_47 : decode b_M_begin 47 = .ok (.return_, 1) := by decide +kernel
theorem d_M_multiply_0 : decode b_M_multiply 0 = .ok (.iconst 0, 1) := by decide +kernel
theorem d_M_multiply_1 : decode b_M_multiply 1 = .ok (.istore_n 2, 1) := by decide +kernel
theorem d_M_multiply_2 : decode b_M_multiply 2 = .ok (.iload_n 2, 1) := by decide +kernel
theorem d_M_multiply_3 : decode b_M_multiply 3 = .ok (.sipush 625, 3) := by decide +kernel
theorem d_M_multiply_6 : decode b_M_multiply 6 = .ok (.if_icmp .ge 16, 3) := by decide +kernel
theorem d_M_multiply_9 : decode b_M_multiply 9 = .ok (.aload_n 0, 1) := by decide +kernel
theorem d_M_multiply_10 : decode b_M_multiply 10 = .ok (.getfield 71, 3) := by decide +kernel
theorem d_M_multiply_13 : decode b_M_multiply 13 = .ok (.iload_n 2, 1) := by decide +kernel
theorem d_M_multiply_14 : decode b_M_multiply 14 = .ok (.iconst 0, 1) := by decide +kernel
theorem d_M_multiply_15 : decode b_M_multiply 15 = .ok (.iastore, 1) := by decide +kernel
theorem d_M_multiply_16 : decode b_M_multiply 16 = .ok (.iinc 2 1, 3) := by decide +kernel
theorem d_M_multiply_19 : decode b_M_multiply 19 = .ok (.goto (-17), 3) := by decide +kernel
theorem d_M_multiply_22 : decode b_M_multiply 22 = .ok (.iconst 0, 1) := by decide +kernel
theorem d_M_multiply_23 : decode b_M_multiply 23 = .ok (.istore_n 2, 1) := by decide +kernel
theorem d_M_multiply_24 : decode b_M_multiply 24 = .ok (.iload_n 2, 1) := by decide +kernel
theorem d_M_multiply_25 : decode b_M_multiply 25 = .ok (.sipush 6561, 3) := by decide +kernel
theorem d_M_multiply_28 : decode b_M_multiply 28 = .ok (.if_icmp .ge 56, 3) := by decide +kernel
theorem d_M_multiply_31 : decode b_M_multiply 31 = .ok (.aload_n 0, 1) := by decide +kernel
theorem d_M_multiply_32 : decode b_M_multiply 32 = .ok (.getfield 71, 3) := by decide +kernel
theorem d_M_multiply_35 : decode b_M_multiply 35 = .ok (.iload_n 2, 1) := by decide +kernel
theorem d_M_multiply_36 : decode b_M_multiply 36 = .ok (.bipush 81, 2) := by decide +kernel
theorem d_M_multiply_38 : decode b_M_multiply 38 = .ok (.idiv, 1) := by decide +kernel
theorem d_M_multiply_39 : decode b_M_multiply 39 = .ok (.invokestatic 89, 3) := by decide +kernel
theorem d_M_multiply_42 : decode b_M_multiply 42 = .ok (.iload_n 2, 1) := by decide +kernel
theorem d_M_multiply_43 : decode b_M_multiply 43 = .ok (.bipush 81, 2) := by decide +kernel
theorem d_M_multiply_45 : decode b_M_multiply 45 = .ok (.irem, 1) := by decide +kernel
theorem d_M_multiply_46 : decode b_M_multiply 46 = .ok (.invokestatic 89, 3) := by decide +kernel
theorem d_M_multiply_49 : decode b_M_multiply 49 = .ok (.iadd, 1) := by decide +kernel
theorem d_M_multiply_50 : decode b_M_multiply 50 = .ok (.dup2, 1) := by decide +kernel
theorem d_M_multiply_51 : decode b_M_multiply 51 = .ok (.iaload, 1) := by decide +kernel
theorem d_M_multiply_52 : decode b_M_multiply 52 = .ok (.aload_n 0, 1) := by decide +kernel
theorem d_M_multiply_53 : decode b_M_multiply 53 = .ok (.getfield 56, 3) := by decide +kernel
theorem d_M_multiply_56 : decode b_M_multiply 56 = .ok (.bipush 81, 2) := by decide +kernel
theorem d_M_multiply_58 : decode b_M_multiply 58 = .ok (.iload_n 1, 1) := by decide +kernel
theorem d_M_multiply_59 : decode b_M_multiply 59 = .ok (.imul, 1) := by decide +kernel
theorem d_M_multiply_60 : decode b_M_multiply 60 = .ok (.iload_n 2, 1) := by decide +kernel
theorem d_M_multiply_61 : decode b_M_multiply 61 = .ok (.bipush 81, 2) := by decide +kernel
theorem d_M_multiply_63 : decode b_M_multiply 63 = .ok (.idiv, 1) := by decide +kernel
theorem d_M_multiply_64 : decode b_M_multiply 64 = .ok (.iadd, 1) := by decide +kernel
theorem d_M_multiply_65 : decode b_M_multiply 65 = .ok (.iaload, 1) := by decide +kernel
theorem d_M_multiply_66 : decode b_M_multiply 66 = .ok (.aload_n 0, 1) := by decide +kernel
theorem d_M_multiply_67 : decode b_M_multiply 67 = .ok (.getfield 68, 3) := by decide +kernel
theorem d_M_multiply_70 : decode b_M_multiply 70 = .ok (.iload_n 2, 1) := by decide +kernel
theorem d_M_multiply_71 : decode b_M_multiply 71 = .ok (.bipush 81, 2) := by decide +kernel
theorem d_M_multiply_73 : decode b_M_multiply 73 = .ok (.irem, 1) := by decide +kernel
theorem d_M_multiply_74 : decode b_M_multiply 74 = .ok (.iaload, 1) := by decide +kernel
theorem d_M_multiply_75 : decode b_M_multiply 75 = .ok (.imul, 1) := by decide +kernel
theorem d_M_multiply_76 : decode b_M_multiply 76 = .ok (.iadd, 1) := by decide +kernel
theorem d_M_multiply_77 : decode b_M_multiply 77 = .ok (.iastore, 1) := by decide +kernel
theorem d_M_multiply_78 : decode b_M_multiply 78 = .ok (.iinc 2 1, 3) := by decide +kernel
theorem d_M_multiply_81 : decode b_M_multiply 81 = .ok (.goto (-57), 3) := by decide +kernel
theorem d_M_multiply_84 : decode b_M_multiply 84 = .ok (.iconst 0, 1) := by decide +kernel
theorem d_M_multiply_85 : decode b_M_multiply 85 = .ok (.istore_n 2, 1) := by decide +kernel
theorem d_M_multiply_86 : decode b_M_multiply 86 = .ok (.iload_n 2, 1) := by decide +kernel
theorem d_M_multiply_87 : decode b_M_multiply 87 = .ok (.bipush 81, 2) := by decide +kernel
theorem d_M_multiply_89 : decode b_M_multiply 89 = .ok (.if_icmp .ge 39, 3) := by decide +kernel
theorem d_M_multiply_92 : decode b_M_multiply 92 = .ok (.aload_n 0, 1) := by decide +kernel
theorem d_M_multiply_93 : decode b_M_multiply 93 = .ok (.getfield 56, 3) := by decide +kernel
theorem d_M_multiply_96 : decode b_M_multiply 96 = .ok (.bipush 81, 2) := by decide +kernel
theorem d_M_multiply_98 : decode b_M_multiply 98 = .ok (.iload_n 1, 1) := by decide +kernel
theorem d_M_multiply_99 : decode b_M_multiply 99 = .ok (.imul, 1) := by decide +kernel
theorem d_M_multiply_100 : decode b_M_multiply 100 = .ok (.iload_n 2, 1) := by decide +kernel
theorem d_M_multiply_101 : decode b_M_multiply 101 = .ok (.iadd, 1) := by decide +kernel
theorem d_M_multiply_102 : decode b_M_multiply 102 = .ok (.aload_n 0, 1) := by decide +kernel
theorem d_M_multiply_103 : decode b_M_multiply 103 = .ok (.getfield 71, 3) := by decide +kernel
theorem d_M_multiply_106 : decode b_M_multiply 106 = .ok (.iload_n 2, 1) := by decide +kernel
theorem d_M_multiply_107 : decode b_M_multiply 107 = .ok (.invokestatic 89, 3) := by decide +kernel
theorem d_M_multiply_110 : decode b_M_multiply 110 = .ok (.iaload, 1) := by decide +kernel
theorem d_M_multiply_111 : decode b_M_multiply 111 = .ok (.iastore, 1) := by decide +kernel
theorem d_M_multiply_112 : decode b_M_multiply 112 = .ok (.aload_n 0, 1) := by decide +kernel
theorem d_M_multiply_113 : decode b_M_multiply 113 = .ok (.getfield 71, 3) := by decide +kernel
theorem d_M_multiply_116 : decode b_M_multiply 116 = .ok (.iload_n 2, 1) := by decide +kernel
theorem d_M_multiply_117 : decode b_M_multiply 117 = .ok (.invokestatic 89, 3) := by decide +kernel
theorem d_M_multiply_120 : decode b_M_multiply 120 = .ok (.iconst 0, 1) := by decide +kernel
theorem d_M_multiply_121 : decode b_M_multiply 121 = .ok (.iastore, 1) := by decide +kernel
theorem d_M_multiply_122 : decode b_M_multiply 122 = .ok (.iinc 2 1, 3) := by decide +kernel
theorem d_M_multiply_125 : decode b_M_multiply 125 = .ok (.goto (-39), 3) := by decide +kernel
theorem d_M_multiply_128 : decode b_M_multiply 128 = .ok (.iconst 0, 1) := by decide +kernel
theorem d_M_multiply_129 : decode b_M_multiply 129 = .ok (.istore_n 2, 1) := by decide +kernel
theorem d_M_multiply_130 : decode b_M_multiply 130 = .ok (.iload_n 2, 1) := by decide +kernel
theorem d_M_multiply_131 : decode b_M_multiply 131 = .ok (.sipush 625, 3) := by decide +kernel
theorem d_M_multiply_134 : decode b_M_multiply 134 = .ok (.if_icmp .ge 23, 3) := by decide +kernel
theorem d_M_multiply_137 : decode b_M_multiply 137 = .ok (.aload_n 0, 1) := by decide +kernel
theorem d_M_multiply_138 : decode b_M_multiply 138 = .ok (.getfield 71, 3) := by decide +kernel
theorem d_M_multiply_141 : decode b_M_multiply 141 = .ok (.iload_n 2, 1) := by decide +kernel
theorem d_M_multiply_142 : decode b_M_multiply 142 = .ok (.iaload, 1) := by decide +kernel
theorem d_M_multiply_143 : decode b_M_multiply 143 = .ok (.ifCond .eq 8, 3) := by decide +kernel
theorem d_M_multiply_146 : decode b_M_multiply 146 = .ok (.aload_n 0, 1) := by decide +kernel
theorem d_M_multiply_147 : decode b_M_multiply 147 = .ok (.iconst 1, 1) := by decide +kernel
theorem d_M_multiply_148 : decode b_M_multiply 148 = .ok (.putfield 85, 3) := by decide +kernel
theorem d_M_multiply_151 : decode b_M_multiply 151 = .ok (.iinc 2 1, 3) := by decide +kernel
theorem d_M_multiply_154 : decode b_M_multiply 154 = .ok (.goto (-24), 3) := by decide +kernel
theorem d_M_multiply_157 : decode b_M_multiply 157 = .ok (.return_, 1) := by decide +kernel
theorem d_M_endFactor_0 : decode b_M_endFactor 0 = .ok (.iconst 0, 1) := by decide +kernel
theorem d_M_endFactor_1 : decode b_M_endFactor 1 = .ok (.istore_n 2, 1) := by decide +kernel
theorem d_M_endFactor_2 : decode b_M_endFactor 2 = .ok (.iload_n 2, 1) := by decide +kernel
theorem d_M_endFactor_3 : decode b_M_endFactor 3 = .ok (.bipush 81, 2) := by decide +kernel
theorem d_M_endFactor_5 : decode b_M_endFactor 5 = .ok (.if_icmp .ge 34, 3) := by decide +kernel
theorem d_M_endFactor_8 : decode b_M_endFactor 8 = .ok (.aload_n 0, 1) := by decide +kernel
theorem d_M_endFactor_9 : decode b_M_endFactor 9 = .ok (.getfield 65, 3) := by decide +kernel
theorem d_M_endFactor_12 : decode b_M_endFactor 12 = .ok (.iload_n 1, 1) := by decide +kernel
theorem d_M_endFactor_13 : decode b_M_endFactor 13 = .ok (.iaload, 1) := by decide +kernel
theorem d_M_endFactor_14 : decode b_M_endFactor 14 = .ok (.iconst 2, 1) := by decide +kernel
theorem d_M_endFactor_15 : decode b_M_endFactor 15 = .ok (.irem, 1) := by decide +kernel
theorem d_M_endFactor_16 : decode b_M_endFactor 16 = .ok (.iconst 1, 1) := by decide +kernel
theorem d_M_endFactor_17 : decode b_M_endFactor 17 = .ok (.if_icmp .ne 16, 3) := by decide +kernel
theorem d_M_endFactor_20 : decode b_M_endFactor 20 = .ok (.aload_n 0, 1) := by decide +kernel
theorem d_M_endFactor_21 : decode b_M_endFactor 21 = .ok (.getfield 68, 3) := by decide +kernel
theorem d_M_endFactor_24 : decode b_M_endFactor 24 = .ok (.iload_n 2, 1) := by decide +kernel
theorem d_M_endFactor_25 : decode b_M_endFactor 25 = .ok (.aload_n 0, 1) := by decide +kernel
theorem d_M_endFactor_26 : decode b_M_endFactor 26 = .ok (.getfield 68, 3) := by decide +kernel
theorem d_M_endFactor_29 : decode b_M_endFactor 29 = .ok (.iload_n 2, 1) := by decide +kernel
theorem d_M_endFactor_30 : decode b_M_endFactor 30 = .ok (.iaload, 1) := by decide +kernel
theorem d_M_endFactor_31 : decode b_M_endFactor 31 = .ok (.ineg, 1) := by decide +kernel
theorem d_M_endFactor_32 : decode b_M_endFactor 32 = .ok (.iastore, 1) := by decide +kernel
theorem d_M_endFactor_33 : decode b_M_endFactor 33 = .ok (.iinc 2 1, 3) := by decide +kernel
theorem d_M_endFactor_36 : decode b_M_endFactor 36 = .ok (.goto (-34), 3) := by decide +kernel
theorem d_M_endFactor_39 : decode b_M_endFactor 39 = .ok (.aload_n 0, 1) := by decide +kernel
theorem d_M_endFactor_40 : decode b_M_endFactor 40 = .ok (.getfield 65, 3) := by decide +kernel
theorem d_M_endFactor_43 : decode b_M_endFactor 43 = .ok (.iload_n 1, 1) := by decide +kernel
theorem d_M_endFactor_44 : decode b_M_endFactor 44 = .ok (.iconst 0, 1) := by decide +kernel
theorem d_M_endFactor_45 : decode b_M_endFactor 45 = .ok (.iastore, 1) := by decide +kernel
theorem d_M_endFactor_46 : decode b_M_endFactor 46 = .ok (.aload_n 0, 1) := by decide +kernel
theorem d_M_endFactor_47 : decode b_M_endFactor 47 = .ok (.getfield 85, 3) := by decide +kernel
theorem d_M_endFactor_50 : decode b_M_endFactor 50 = .ok (.ifCond .eq 4, 3) := by decide +kernel
theorem d_M_endFactor_53 : decode b_M_endFactor 53 = .ok (.return_, 1) := by decide +kernel
theorem d_M_endFactor_54 : decode b_M_endFactor 54 = .ok (.aload_n 0, 1) := by decide +kernel
theorem d_M_endFactor_55 : decode b_M_endFactor 55 = .ok (.getfield 59, 3) := by decide +kernel
theorem d_M_endFactor_58 : decode b_M_endFactor 58 = .ok (.iload_n 1, 1) := by decide +kernel
theorem d_M_endFactor_59 : decode b_M_endFactor 59 = .ok (.baload, 1) := by decide +kernel
theorem d_M_endFactor_60 : decode b_M_endFactor 60 = .ok (.ifCond .eq 11, 3) := by decide +kernel
theorem d_M_endFactor_63 : decode b_M_endFactor 63 = .ok (.aload_n 0, 1) := by decide +kernel
theorem d_M_endFactor_64 : decode b_M_endFactor 64 = .ok (.iload_n 1, 1) := by decide +kernel
theorem d_M_endFactor_65 : decode b_M_endFactor 65 = .ok (.invokevirtual 92, 3) := by decide +kernel
theorem d_M_endFactor_68 : decode b_M_endFactor 68 = .ok (.goto 34, 3) := by decide +kernel
theorem d_M_endFactor_71 : decode b_M_endFactor 71 = .ok (.iconst 0, 1) := by decide +kernel
theorem d_M_endFactor_72 : decode b_M_endFactor 72 = .ok (.istore_n 2, 1) := by decide +kernel
theorem d_M_endFactor_73 : decode b_M_endFactor 73 = .ok (.iload_n 2, 1) := by decide +kernel
theorem d_M_endFactor_74 : decode b_M_endFactor 74 = .ok (.bipush 81, 2) := by decide +kernel
theorem d_M_endFactor_76 : decode b_M_endFactor 76 = .ok (.if_icmp .ge 26, 3) := by decide +kernel
theorem d_M_endFactor_79 : decode b_M_endFactor 79 = .ok (.aload_n 0, 1) := by decide +kernel
theorem d_M_endFactor_80 : decode b_M_endFactor 80 = .ok (.getfield 56, 3) := by decide +kernel
theorem d_M_endFactor_83 : decode b_M_endFactor 83 = .ok (.bipush 81, 2) := by decide +kernel
theorem d_M_endFactor_85 : decode b_M_endFactor 85 = .ok (.iload_n 1, 1) := by decide +kernel
theorem d_M_endFactor_86 : decode b_M_endFactor 86 = .ok (.imul, 1) := by decide +kernel
theorem d_M_endFactor_87 : decode b_M_endFactor 87 = .ok (.iload_n 2, 1) := by decide +kernel
theorem d_M_endFactor_88 : decode b_M_endFactor 88 = .ok (.iadd, 1) := by decide +kernel
theorem d_M_endFactor_89 : decode b_M_endFactor 89 = .ok (.aload_n 0, 1) := by decide +kernel
theorem d_M_endFactor_90 : decode b_M_endFactor 90 = .ok (.getfield 68, 3) := by decide +kernel
theorem d_M_endFactor_93 : decode b_M_endFactor 93 = .ok (.iload_n 2, 1) := by decide +kernel
theorem d_M_endFactor_94 : decode b_M_endFactor 94 = .ok (.iaload, 1) := by decide +kernel
theorem d_M_endFactor_95 : decode b_M_endFactor 95 = .ok (.iastore, 1) := by decide +kernel
theorem d_M_endFactor_96 : decode b_M_endFactor 96 = .ok (.iinc 2 1, 3) := by decide +kernel
theorem d_M_endFactor_99 : decode b_M_endFactor 99 = .ok (.goto (-26), 3) := by decide +kernel
theorem d_M_endFactor_102 : decode b_M_endFactor 102 = .ok (.aload_n 0, 1) := by decide +kernel
theorem d_M_endFactor_103 : decode b_M_endFactor 103 = .ok (.getfield 59, 3) := by decide +kernel
theorem d_M_endFactor_106 : decode b_M_endFactor 106 = .ok (.iload_n 1, 1) := by decide +kernel
theorem d_M_endFactor_107 : decode b_M_endFactor 107 = .ok (.iconst 1, 1) := by decide +kernel
theorem d_M_endFactor_108 : decode b_M_endFactor 108 = .ok (.bastore, 1) := by decide +kernel
theorem d_M_endFactor_109 : decode b_M_endFactor 109 = .ok (.aload_n 0, 1) := by decide +kernel
theorem d_M_endFactor_110 : decode b_M_endFactor 110 = .ok (.iconst 0, 1) := by decide +kernel
theorem d_M_endFactor_111 : decode b_M_endFactor 111 = .ok (.bipush 81, 2) := by decide +kernel
theorem d_M_endFactor_113 : decode b_M_endFactor 113 = .ok (.iload_n 1, 1) := by decide +kernel
theorem d_M_endFactor_114 : decode b_M_endFactor 114 = .ok (.imul, 1) := by decide +kernel
theorem d_M_endFactor_115 : decode b_M_endFactor 115 = .ok (.invokevirtual 96, 3) := by decide +kernel
theorem d_M_endFactor_118 : decode b_M_endFactor 118 = .ok (.return_, 1) := by decide +kernel
theorem d_M_endTerm_0 : decode b_M_endTerm 0 = .ok (.iconst 0, 1) := by decide +kernel
theorem d_M_endTerm_1 : decode b_M_endTerm 1 = .ok (.istore_n 2, 1) := by decide +kernel
theorem d_M_endTerm_2 : decode b_M_endTerm 2 = .ok (.iload_n 2, 1) := by decide +kernel
theorem d_M_endTerm_3 : decode b_M_endTerm 3 = .ok (.bipush 81, 2) := by decide +kernel
theorem d_M_endTerm_5 : decode b_M_endTerm 5 = .ok (.if_icmp .ge 52, 3) := by decide +kernel
theorem d_M_endTerm_8 : decode b_M_endTerm 8 = .ok (.aload_n 0, 1) := by decide +kernel
theorem d_M_endTerm_9 : decode b_M_endTerm 9 = .ok (.getfield 53, 3) := by decide +kernel
theorem d_M_endTerm_12 : decode b_M_endTerm 12 = .ok (.bipush 81, 2) := by decide +kernel
theorem d_M_endTerm_14 : decode b_M_endTerm 14 = .ok (.iload_n 1, 1) := by decide +kernel
theorem d_M_endTerm_15 : decode b_M_endTerm 15 = .ok (.imul, 1) := by decide +kernel
theorem d_M_endTerm_16 : decode b_M_endTerm 16 = .ok (.iload_n 2, 1) := by decide +kernel
theorem d_M_endTerm_17 : decode b_M_endTerm 17 = .ok (.iadd, 1) := by decide +kernel
theorem d_M_endTerm_18 : decode b_M_endTerm 18 = .ok (.dup2, 1) := by decide +kernel
theorem d_M_endTerm_19 : decode b_M_endTerm 19 = .ok (.iaload, 1) := by decide +kernel
theorem d_M_endTerm_20 : decode b_M_endTerm 20 = .ok (.aload_n 0, 1) := by decide +kernel
theorem d_M_endTerm_21 : decode b_M_endTerm 21 = .ok (.getfield 85, 3) := by decide +kernel
theorem d_M_endTerm_24 : decode b_M_endTerm 24 = .ok (.ifCond .eq 7, 3) := by decide +kernel
theorem d_M_endTerm_27 : decode b_M_endTerm 27 = .ok (.iconst 0, 1) := by decide +kernel
theorem d_M_endTerm_28 : decode b_M_endTerm 28 = .ok (.goto 21, 3) := by decide +kernel
theorem d_M_endTerm_31 : decode b_M_endTerm 31 = .ok (.aload_n 0, 1) := by decide +kernel
theorem d_M_endTerm_32 : decode b_M_endTerm 32 = .ok (.getfield 62, 3) := by decide +kernel
theorem d_M_endTerm_35 : decode b_M_endTerm 35 = .ok (.iload_n 1, 1) := by decide +kernel
theorem d_M_endTerm_36 : decode b_M_endTerm 36 = .ok (.iaload, 1) := by decide +kernel
theorem d_M_endTerm_37 : decode b_M_endTerm 37 = .ok (.aload_n 0, 1) := by decide +kernel
theorem d_M_endTerm_38 : decode b_M_endTerm 38 = .ok (.getfield 56, 3) := by decide +kernel
theorem d_M_endTerm_41 : decode b_M_endTerm 41 = .ok (.bipush 81, 2) := by decide +kernel
theorem d_M_endTerm_43 : decode b_M_endTerm 43 = .ok (.iload_n 1, 1) := by decide +kernel
theorem d_M_endTerm_44 : decode b_M_endTerm 44 = .ok (.imul, 1) := by decide +kernel
theorem d_M_endTerm_45 : decode b_M_endTerm 45 = .ok (.iload_n 2, 1) := by decide +kernel
theorem d_M_endTerm_46 : decode b_M_endTerm 46 = .ok (.iadd, 1) := by decide +kernel
theorem d_M_endTerm_47 : decode b_M_endTerm 47 = .ok (.iaload, 1) := by decide +kernel
theorem d_M_endTerm_48 : decode b_M_endTerm 48 = .ok (.imul, 1) := by decide +kernel
theorem d_M_endTerm_49 : decode b_M_endTerm 49 = .ok (.iadd, 1) := by decide +kernel
theorem d_M_endTerm_50 : decode b_M_endTerm 50 = .ok (.iastore, 1) := by decide +kernel
theorem d_M_endTerm_51 : decode b_M_endTerm 51 = .ok (.iinc 2 1, 3) := by decide +kernel
theorem d_M_endTerm_54 : decode b_M_endTerm 54 = .ok (.goto (-52), 3) := by decide +kernel
theorem d_M_endTerm_57 : decode b_M_endTerm 57 = .ok (.aload_n 0, 1) := by decide +kernel
theorem d_M_endTerm_58 : decode b_M_endTerm 58 = .ok (.getfield 59, 3) := by decide +kernel
theorem d_M_endTerm_61 : decode b_M_endTerm 61 = .ok (.iload_n 1, 1) := by decide +kernel
theorem d_M_endTerm_62 : decode b_M_endTerm 62 = .ok (.iconst 0, 1) := by decide +kernel
theorem d_M_endTerm_63 : decode b_M_endTerm 63 = .ok (.bastore, 1) := by decide +kernel
theorem d_M_endTerm_64 : decode b_M_endTerm 64 = .ok (.aload_n 0, 1) := by decide +kernel
theorem d_M_endTerm_65 : decode b_M_endTerm 65 = .ok (.iconst 1, 1) := by decide +kernel
theorem d_M_endTerm_66 : decode b_M_endTerm 66 = .ok (.bipush 81, 2) := by decide +kernel
theorem d_M_endTerm_68 : decode b_M_endTerm 68 = .ok (.iload_n 1, 1) := by decide +kernel
theorem d_M_endTerm_69 : decode b_M_endTerm 69 = .ok (.imul, 1) := by decide +kernel
theorem d_M_endTerm_70 : decode b_M_endTerm 70 = .ok (.invokevirtual 96, 3) := by decide +kernel
theorem d_M_endTerm_73 : decode b_M_endTerm 73 = .ok (.return_, 1) := by decide +kernel
theorem d_M_simple_0 : decode b_M_simple 0 = .ok (.iconst 0, 1) := by decide +kernel
theorem d_M_simple_1 : decode b_M_simple 1 = .ok (.istore_n 2, 1) := by decide +kernel
theorem d_M_simple_2 : decode b_M_simple 2 = .ok (.iload_n 2, 1) := by decide +kernel
theorem d_M_simple_3 : decode b_M_simple 3 = .ok (.bipush 81, 2) := by decide +kernel
theorem d_M_simple_5 : decode b_M_simple 5 = .ok (.if_icmp .ge 16, 3) := by decide +kernel
theorem d_M_simple_8 : decode b_M_simple 8 = .ok (.aload_n 0, 1) := by decide +kernel
theorem d_M_simple_9 : decode b_M_simple 9 = .ok (.getfield 68, 3) := by decide +kernel
theorem d_M_simple_12 : decode b_M_simple 12 = .ok (.iload_n 2, 1) := by decide +kernel
theorem d_M_simple_13 : decode b_M_simple 13 = .ok (.iconst 0, 1) := by decide +kernel
theorem d_M_simple_14 : decode b_M_simple 14 = .ok (.iastore, 1) := by decide +kernel
theorem d_M_simple_15 : decode b_M_simple 15 = .ok (.iinc 2 1, 3) := by decide +kernel
theorem d_M_simple_18 : decode b_M_simple 18 = .ok (.goto (-16), 3) := by decide +kernel
theorem d_M_simple_21 : decode b_M_simple 21 = .ok (.iload_n 1, 1) := by decide +kernel
theorem d_M_simple_22 : decode b_M_simple 22 = .ok (.bipush 48, 2) := by decide +kernel
theorem d_M_simple_24 : decode b_M_simple 24 = .ok (.if_icmp .lt 22, 3) := by decide +kernel
theorem d_M_simple_27 : decode b_M_simple 27 = .ok (.iload_n 1, 1) := by decide +kernel
theorem d_M_simple_28 : decode b_M_simple 28 = .ok (.bipush 57, 2) := by decide +kernel
theorem d_M_simple_30 : decode b_M_simple 30 = .ok (.if_icmp .gt 16, 3) := by decide +kernel
theorem d_M_simple_33 : decode b_M_simple 33 = .ok (.aload_n 0, 1) := by decide +kernel
theorem d_M_simple_34 : decode b_M_simple 34 = .ok (.getfield 68, 3) := by decide +kernel
theorem d_M_simple_37 : decode b_M_simple 37 = .ok (.iconst 0, 1) := by decide +kernel
theorem d_M_simple_38 : decode b_M_simple 38 = .ok (.iload_n 1, 1) := by decide +kernel
theorem d_M_simple_39 : decode b_M_simple 39 = .ok (.bipush 48, 2) := by decide +kernel
theorem d_M_simple_41 : decode b_M_simple 41 = .ok (.isub, 1) := by decide +kernel
theorem d_M_simple_42 : decode b_M_simple 42 = .ok (.iastore, 1) := by decide +kernel
theorem d_M_simple_43 : decode b_M_simple 43 = .ok (.goto 42, 3) := by decide +kernel
theorem d_M_simple_46 : decode b_M_simple 46 = .ok (.aload_n 0, 1) := by decide +kernel
theorem d_M_simple_47 : decode b_M_simple 47 = .ok (.getfield 68, 3) := by decide +kernel
theorem d_M_simple_50 : decode b_M_simple 50 = .ok (.iload_n 1, 1) := by decide +kernel
theorem d_M_simple_51 : decode b_M_simple 51 = .ok (.bipush 65, 2) := by decide +kernel
theorem d_M_simple_53 : decode b_M_simple 53 = .ok (.if_icmp .ne 8, 3) := by decide +kernel
theorem d_M_simple_56 : decode b_M_simple 56 = .ok (.bipush 27, 2) := by decide +kernel
theorem d_M_simple_58 : decode b_M_simple 58 = .ok (.goto 25, 3) := by decide +kernel
theorem d_M_simple_61 : decode b_M_simple 61 = .ok (.iload_n 1, 1) := by decide +kernel
theorem d_M_simple_62 : decode b_M_simple 62 = .ok (.bipush 66, 2) := by decide +kernel
theorem d_M_simple_64 : decode b_M_simple 64 = .ok (.if_icmp .ne 8, 3) := by decide +kernel
theorem d_M_simple_67 : decode b_M_simple 67 = .ok (.bipush 9, 2) := by decide +kernel
theorem d_M_simple_69 : decode b_M_simple 69 = .ok (.goto 14, 3) := by decide +kernel
theorem d_M_simple_72 : decode b_M_simple 72 = .ok (.iload_n 1, 1) := by decide +kernel
theorem d_M_simple_73 : decode b_M_simple 73 = .ok (.bipush 67, 2) := by decide +kernel
theorem d_M_simple_75 : decode b_M_simple 75 = .ok (.if_icmp .ne 7, 3) := by decide +kernel
theorem d_M_simple_78 : decode b_M_simple 78 = .ok (.iconst 3, 1) := by decide +kernel
theorem d_M_simple_79 : decode b_M_simple 79 = .ok (.goto 4, 3) := by decide +kernel
theorem d_M_simple_82 : decode b_M_simple 82 = .ok (.iconst 1, 1) := by decide +kernel
theorem d_M_simple_83 : decode b_M_simple 83 = .ok (.iconst 1, 1) := by decide +kernel
theorem d_M_simple_84 : decode b_M_simple 84 = .ok (.iastore, 1) := by decide +kernel
theorem d_M_simple_85 : decode b_M_simple 85 = .ok (.return_, 1) := by decide +kernel
theorem d_M_readChain_0 : decode b_M_readChain 0 = .ok (.iconst 0, 1) := by decide +kernel
theorem d_M_readChain_1 : decode b_M_readChain 1 = .ok (.istore_n 1, 1) := by decide +kernel
theorem d_M_readChain_2 : decode b_M_readChain 2 = .ok (.aload_n 0, 1) := by decide +kernel
theorem d_M_readChain_3 : decode b_M_readChain 3 = .ok (.iconst 0, 1) := by decide +kernel
theorem d_M_readChain_4 : decode b_M_readChain 4 = .ok (.putfield 78, 3) := by decide +kernel
theorem d_M_readChain_7 : decode b_M_readChain 7 = .ok (.iload_n 1, 1) := by decide +kernel
theorem d_M_readChain_8 : decode b_M_readChain 8 = .ok (.aload_n 0, 1) := by decide +kernel
theorem d_M_readChain_9 : decode b_M_readChain 9 = .ok (.getfield 82, 3) := by decide +kernel
theorem d_M_readChain_12 : decode b_M_readChain 12 = .ok (.if_icmp .ge 101, 3) := by decide +kernel
theorem d_M_readChain_15 : decode b_M_readChain 15 = .ok (.aload_n 0, 1) := by decide +kernel
theorem d_M_readChain_16 : decode b_M_readChain 16 = .ok (.iload_n 1, 1) := by decide +kernel
theorem d_M_readChain_17 : decode b_M_readChain 17 = .ok (.invokevirtual 100, 3) := by decide +kernel
theorem d_M_readChain_20 : decode b_M_readChain 20 = .ok (.bipush 58, 2) := by decide +kernel
theorem d_M_readChain_22 : decode b_M_readChain 22 = .ok (.if_icmp .eq 91, 3) := by decide +kernel
theorem d_M_readChain_25 : decode b_M_readChain 25 = .ok (.aload_n 0, 1) := by decide +kernel
theorem d_M_readChain_26 : decode b_M_readChain 26 = .ok (.iload_n 1, 1) := by decide +kernel
theorem d_M_readChain_27 : decode b_M_readChain 27 = .ok (.invokevirtual 100, 3) := by decide +kernel
theorem d_M_readChain_30 : decode b_M_readChain 30 = .ok (.istore_n 2, 1) := by decide +kernel
theorem d_M_readChain_31 : decode b_M_readChain 31 = .ok (.iload_n 2, 1) := by decide +kernel
theorem d_M_readChain_32 : decode b_M_readChain 32 = .ok (.bipush 82, 2) := by decide +kernel
theorem d_M_readChain_34 : decode b_M_readChain 34 = .ok (.if_icmp .ne 7, 3) := by decide +kernel
theorem d_M_readChain_37 : decode b_M_readChain 37 = .ok (.iconst 1, 1) := by decide +kernel
theorem d_M_readChain_38 : decode b_M_readChain 38 = .ok (.goto 24, 3) := by decide +kernel
theorem d_M_readChain_41 : decode b_M_readChain 41 = .ok (.iload_n 2, 1) := by decide +kernel
theorem d_M_readChain_42 : decode b_M_readChain 42 = .ok (.bipush 83, 2) := by decide +kernel
theorem d_M_readChain_44 : decode b_M_readChain 44 = .ok (.if_icmp .ne 7, 3) := by decide +kernel
theorem d_M_readChain_47 : decode b_M_readChain 47 = .ok (.iconst 2, 1) := by decide +kernel
theorem d_M_readChain_48 : decode b_M_readChain 48 = .ok (.goto 14, 3) := by decide +kernel
theorem d_M_readChain_51 : decode b_M_readChain 51 = .ok (.iload_n 2, 1) := by decide +kernel
theorem d_M_readChain_52 : decode b_M_readChain 52 = .ok (.bipush 84, 2) := by decide +kernel
theorem d_M_readChain_54 : decode b_M_readChain 54 = .ok (.if_icmp .ne 7, 3) := by decide +kernel
theorem d_M_readChain_57 : decode b_M_readChain 57 = .ok (.iconst 4, 1) := by decide +kernel
theorem d_M_readChain_58 : decode b_M_readChain 58 = .ok (.goto 4, 3) := by decide +kernel
theorem d_M_readChain_61 : decode b_M_readChain 61 = .ok (.iconst 0, 1) := by decide +kernel
theorem d_M_readChain_62 : decode b_M_readChain 62 = .ok (.istore_n 3, 1) := by decide +kernel
theorem d_M_readChain_63 : decode b_M_readChain 63 = .ok (.iload_n 3, 1) := by decide +kernel
theorem d_M_readChain_64 : decode b_M_readChain 64 = .ok (.ifCond .eq 29, 3) := by decide +kernel
theorem d_M_readChain_67 : decode b_M_readChain 67 = .ok (.aload_n 0, 1) := by decide +kernel
theorem d_M_readChain_68 : decode b_M_readChain 68 = .ok (.getfield 78, 3) := by decide +kernel
theorem d_M_readChain_71 : decode b_M_readChain 71 = .ok (.ifCond .le 14, 3) := by decide +kernel
theorem d_M_readChain_74 : decode b_M_readChain 74 = .ok (.aload_n 0, 1) := by decide +kernel
theorem d_M_readChain_75 : decode b_M_readChain 75 = .ok (.getfield 78, 3) := by decide +kernel
theorem d_M_readChain_78 : decode b_M_readChain 78 = .ok (.iload_n 3, 1) := by decide +kernel
theorem d_M_readChain_79 : decode b_M_readChain 79 = .ok (.iconst 1, 1) := by decide +kernel
theorem d_M_readChain_80 : decode b_M_readChain 80 = .ok (.ishr, 1) := by decide +kernel
theorem d_M_readChain_81 : decode b_M_readChain 81 = .ok (.iand, 1) := by decide +kernel
theorem d_M_readChain_82 : decode b_M_readChain 82 = .ok (.ifCond .eq 11, 3) := by decide +kernel
theorem d_M_readChain_85 : decode b_M_readChain 85 = .ok (.aload_n 0, 1) := by decide +kernel
theorem d_M_readChain_86 : decode b_M_readChain 86 = .ok (.getfield 78, 3) := by decide +kernel
theorem d_M_readChain_89 : decode b_M_readChain 89 = .ok (.iload_n 3, 1) := by decide +kernel
theorem d_M_readChain_90 : decode b_M_readChain 90 = .ok (.if_icmp .lt 7, 3) := by decide +kernel
theorem d_M_readChain_93 : decode b_M_readChain 93 = .ok (.iconst (-1), 1) := by decide +kernel
theorem d_M_readChain_94 : decode b_M_readChain 94 = .ok (.iload_n 1, 1) := by decide +kernel
theorem d_M_readChain_95 : decode b_M_readChain 95 = .ok (.isub, 1) := by decide +kernel
theorem d_M_readChain_96 : decode b_M_readChain 96 = .ok (.ireturn, 1) := by decide +kernel
theorem d_M_readChain_97 : decode b_M_readChain 97 = .ok (.aload_n 0, 1) := by decide +kernel
theorem d_M_readChain_98 : decode b_M_readChain 98 = .ok (.dup, 1) := by decide +kernel
theorem d_M_readChain_99 : decode b_M_readChain 99 = .ok (.getfield 78, 3) := by decide +kernel
theorem d_M_readChain_102 : decode b_M_readChain 102 = .ok (.iload_n 3, 1) := by decide +kernel
theorem d_M_readChain_103 : decode b_M_readChain 103 = .ok (.ior, 1) := by decide +kernel
theorem d_M_readChain_104 : decode b_M_readChain 104 = .ok (.putfield 78, 3) := by decide +kernel
theorem d_M_readChain_107 : decode b_M_readChain 107 = .ok (.iinc 1 1, 3) := by decide +kernel
theorem d_M_readChain_110 : decode b_M_readChain 110 = .ok (.goto (-103), 3) := by decide +kernel
theorem d_M_readChain_113 : decode b_M_readChain 113 = .ok (.iload_n 1, 1) := by decide +kernel
theorem d_M_readChain_114 : decode b_M_readChain 114 = .ok (.aload_n 0, 1) := by decide +kernel
theorem d_M_readChain_115 : decode b_M_readChain 115 = .ok (.getfield 82, 3) := by decide +kernel
theorem d_M_readChain_118 : decode b_M_readChain 118 = .ok (.if_icmp .eq 10, 3) := by decide +kernel
theorem d_M_readChain_121 : decode b_M_readChain 121 = .ok (.aload_n 0, 1) := by decide +kernel
theorem d_M_readChain_122 : decode b_M_readChain 122 = .ok (.getfield 78, 3) := by decide +kernel
theorem d_M_readChain_125 : decode b_M_readChain 125 = .ok (.ifCond .ne 9, 3) := by decide +kernel
theorem d_M_readChain_128 : decode b_M_readChain 128 = .ok (.iconst (-1), 1) := by decide +kernel
theorem d_M_readChain_129 : decode b_M_readChain 129 = .ok (.iload_n 1, 1) := by decide +kernel
theorem d_M_readChain_130 : decode b_M_readChain 130 = .ok (.isub, 1) := by decide +kernel
theorem d_M_readChain_131 : decode b_M_readChain 131 = .ok (.goto 6, 3) := by decide +kernel
theorem d_M_readChain_134 : decode b_M_readChain 134 = .ok (.iload_n 1, 1) := by decide +kernel
theorem d_M_readChain_135 : decode b_M_readChain 135 = .ok (.iconst 1, 1) := by decide +kernel
theorem d_M_readChain_136 : decode b_M_readChain 136 = .ok (.iadd, 1) := by decide +kernel
theorem d_M_readChain_137 : decode b_M_readChain 137 = .ok (.ireturn, 1) := by decide +kernel
theorem d_M_readExpression_0 : decode b_M_readExpression 0 = .ok (.iconst 0, 1) := by decide +kernel
