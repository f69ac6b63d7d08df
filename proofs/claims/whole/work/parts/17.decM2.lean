theorem d_M_define_148 : decode b_M_define 148 = .ok (.iload_n 3, 1) := by decide +kernel
theorem d_M_define_149 : decode b_M_define 149 = .ok (.iaload, 1) := by decide +kernel
theorem d_M_define_150 : decode b_M_define 150 = .ok (.iadd, 1) := by decide +kernel
theorem d_M_define_151 : decode b_M_define 151 = .ok (.bipush 16, 2) := by decide +kernel
theorem d_M_define_153 : decode b_M_define 153 = .ok (.imul, 1) := by decide +kernel
theorem d_M_define_154 : decode b_M_define 154 = .ok (.aload_n 0, 1) := by decide +kernel
theorem d_M_define_155 : decode b_M_define 155 = .ok (.getfield 28, 3) := by decide +kernel
theorem d_M_define_158 : decode b_M_define 158 = .ok (.iload_n 3, 1) := by decide +kernel
theorem d_M_define_159 : decode b_M_define 159 = .ok (.iaload, 1) := by decide +kernel
theorem d_M_define_160 : decode b_M_define 160 = .ok (.iadd, 1) := by decide +kernel
theorem d_M_define_161 : decode b_M_define 161 = .ok (.iastore, 1) := by decide +kernel
theorem d_M_define_162 : decode b_M_define 162 = .ok (.iinc 3 1, 3) := by decide +kernel
theorem d_M_define_165 : decode b_M_define 165 = .ok (.goto (-49), 3) := by decide +kernel
theorem d_M_define_168 : decode b_M_define 168 = .ok (.aload_n 0, 1) := by decide +kernel
theorem d_M_define_169 : decode b_M_define 169 = .ok (.getfield 35, 3) := by decide +kernel
theorem d_M_define_172 : decode b_M_define 172 = .ok (.iload_n 1, 1) := by decide +kernel
theorem d_M_define_173 : decode b_M_define 173 = .ok (.iload_n 2, 1) := by decide +kernel
theorem d_M_define_174 : decode b_M_define 174 = .ok (.iastore, 1) := by decide +kernel
theorem d_M_define_175 : decode b_M_define 175 = .ok (.iload_n 2, 1) := by decide +kernel
theorem d_M_define_176 : decode b_M_define 176 = .ok (.ireturn, 1) := by decide +kernel
theorem d_M_drop_0 : decode b_M_drop 0 = .ok (.iload_n 1, 1) := by decide +kernel
theorem d_M_drop_1 : decode b_M_drop 1 = .ok (.iconst 4, 1) := by decide +kernel
theorem d_M_drop_2 : decode b_M_drop 2 = .ok (.invokestatic 138, 3) := by decide +kernel
theorem d_M_drop_5 : decode b_M_drop 5 = .ok (.ifCond .eq 12, 3) := by decide +kernel
theorem d_M_drop_8 : decode b_M_drop 8 = .ok (.aload_n 0, 1) := by decide +kernel
theorem d_M_drop_9 : decode b_M_drop 9 = .ok (.getfield 31, 3) := by decide +kernel
theorem d_M_drop_12 : decode b_M_drop 12 = .ok (.iload_n 1, 1) := by decide +kernel
theorem d_M_drop_13 : decode b_M_drop 13 = .ok (.baload, 1) := by decide +kernel
theorem d_M_drop_14 : decode b_M_drop 14 = .ok (.ifCond .ne 5, 3) := by decide +kernel
theorem d_M_drop_17 : decode b_M_drop 17 = .ok (.iconst (-1), 1) := by decide +kernel
theorem d_M_drop_18 : decode b_M_drop 18 = .ok (.ireturn, 1) := by decide +kernel
theorem d_M_drop_19 : decode b_M_drop 19 = .ok (.aload_n 0, 1) := by decide +kernel
theorem d_M_drop_20 : decode b_M_drop 20 = .ok (.getfield 31, 3) := by decide +kernel
theorem d_M_drop_23 : decode b_M_drop 23 = .ok (.iload_n 1, 1) := by decide +kernel
theorem d_M_drop_24 : decode b_M_drop 24 = .ok (.iconst 0, 1) := by decide +kernel
theorem d_M_drop_25 : decode b_M_drop 25 = .ok (.bastore, 1) := by decide +kernel
theorem d_M_drop_26 : decode b_M_drop 26 = .ok (.iconst 0, 1) := by decide +kernel
theorem d_M_drop_27 : decode b_M_drop 27 = .ok (.ireturn, 1) := by decide +kernel
theorem d_M_of_0 : decode b_M_of 0 = .ok (.iload_n 1, 1) := by decide +kernel
theorem d_M_of_1 : decode b_M_of 1 = .ok (.ifCond .ne 11, 3) := by decide +kernel
theorem d_M_of_4 : decode b_M_of 4 = .ok (.iload_n 0, 1) := by decide +kernel
theorem d_M_of_5 : decode b_M_of 5 = .ok (.sipush 216, 3) := by decide +kernel
theorem d_M_of_8 : decode b_M_of 8 = .ok (.idiv, 1) := by decide +kernel
theorem d_M_of_9 : decode b_M_of 9 = .ok (.goto 37, 3) := by decide +kernel
theorem d_M_of_12 : decode b_M_of 12 = .ok (.iload_n 1, 1) := by decide +kernel
theorem d_M_of_13 : decode b_M_of 13 = .ok (.iconst 1, 1) := by decide +kernel
theorem d_M_of_14 : decode b_M_of 14 = .ok (.if_icmp .ne 13, 3) := by decide +kernel
theorem d_M_of_17 : decode b_M_of 17 = .ok (.iload_n 0, 1) := by decide +kernel
theorem d_M_of_18 : decode b_M_of 18 = .ok (.bipush 36, 2) := by decide +kernel
theorem d_M_of_20 : decode b_M_of 20 = .ok (.idiv, 1) := by decide +kernel
theorem d_M_of_21 : decode b_M_of 21 = .ok (.bipush 6, 2) := by decide +kernel
theorem d_M_of_23 : decode b_M_of 23 = .ok (.irem, 1) := by decide +kernel
theorem d_M_of_24 : decode b_M_of 24 = .ok (.goto 22, 3) := by decide +kernel
theorem d_M_of_27 : decode b_M_of 27 = .ok (.iload_n 1, 1) := by decide +kernel
theorem d_M_of_28 : decode b_M_of 28 = .ok (.iconst 2, 1) := by decide +kernel
theorem d_M_of_29 : decode b_M_of 29 = .ok (.if_icmp .ne 13, 3) := by decide +kernel
theorem d_M_of_32 : decode b_M_of 32 = .ok (.iload_n 0, 1) := by decide +kernel
theorem d_M_of_33 : decode b_M_of 33 = .ok (.bipush 6, 2) := by decide +kernel
theorem d_M_of_35 : decode b_M_of 35 = .ok (.idiv, 1) := by decide +kernel
theorem d_M_of_36 : decode b_M_of 36 = .ok (.bipush 6, 2) := by decide +kernel
theorem d_M_of_38 : decode b_M_of 38 = .ok (.irem, 1) := by decide +kernel
theorem d_M_of_39 : decode b_M_of 39 = .ok (.goto 7, 3) := by decide +kernel
theorem d_M_of_42 : decode b_M_of 42 = .ok (.iload_n 0, 1) := by decide +kernel
theorem d_M_of_43 : decode b_M_of 43 = .ok (.bipush 6, 2) := by decide +kernel
theorem d_M_of_45 : decode b_M_of 45 = .ok (.irem, 1) := by decide +kernel
theorem d_M_of_46 : decode b_M_of 46 = .ok (.ireturn, 1) := by decide +kernel
theorem d_M_meets_0 : decode b_M_meets 0 = .ok (.iconst 0, 1) := by decide +kernel
theorem d_M_meets_1 : decode b_M_meets 1 = .ok (.istore_n 3, 1) := by decide +kernel
theorem d_M_meets_2 : decode b_M_meets 2 = .ok (.iload_n 3, 1) := by decide +kernel
theorem d_M_meets_3 : decode b_M_meets 3 = .ok (.aload_n 0, 1) := by decide +kernel
theorem d_M_meets_4 : decode b_M_meets 4 = .ok (.getfield 44, 3) := by decide +kernel
theorem d_M_meets_7 : decode b_M_meets 7 = .ok (.iload_n 1, 1) := by decide +kernel
theorem d_M_meets_8 : decode b_M_meets 8 = .ok (.iaload, 1) := by decide +kernel
theorem d_M_meets_9 : decode b_M_meets 9 = .ok (.if_icmp .ge 139, 3) := by decide +kernel
theorem d_M_meets_12 : decode b_M_meets 12 = .ok (.aload_n 0, 1) := by decide +kernel
theorem d_M_meets_13 : decode b_M_meets 13 = .ok (.getfield 47, 3) := by decide +kernel
theorem d_M_meets_16 : decode b_M_meets 16 = .ok (.bipush 10, 2) := by decide +kernel
theorem d_M_meets_18 : decode b_M_meets 18 = .ok (.iload_n 1, 1) := by decide +kernel
theorem d_M_meets_19 : decode b_M_meets 19 = .ok (.imul, 1) := by decide +kernel
theorem d_M_meets_20 : decode b_M_meets 20 = .ok (.iload_n 3, 1) := by decide +kernel
theorem d_M_meets_21 : decode b_M_meets 21 = .ok (.iadd, 1) := by decide +kernel
theorem d_M_meets_22 : decode b_M_meets 22 = .ok (.iaload, 1) := by decide +kernel
theorem d_M_meets_23 : decode b_M_meets 23 = .ok (.istore 4, 2) := by decide +kernel
theorem d_M_meets_25 : decode b_M_meets 25 = .ok (.iload_n 2, 1) := by decide +kernel
theorem d_M_meets_26 : decode b_M_meets 26 = .ok (.iload 4, 2) := by decide +kernel
theorem d_M_meets_28 : decode b_M_meets 28 = .ok (.sipush 2048, 3) := by decide +kernel
theorem d_M_meets_31 : decode b_M_meets 31 = .ok (.idiv, 1) := by decide +kernel
theorem d_M_meets_32 : decode b_M_meets 32 = .ok (.invokestatic 156, 3) := by decide +kernel
theorem d_M_meets_35 : decode b_M_meets 35 = .ok (.istore 5, 2) := by decide +kernel
theorem d_M_meets_37 : decode b_M_meets 37 = .ok (.iload 4, 2) := by decide +kernel
theorem d_M_meets_39 : decode b_M_meets 39 = .ok (.bipush 16, 2) := by decide +kernel
theorem d_M_meets_41 : decode b_M_meets 41 = .ok (.irem, 1) := by decide +kernel
theorem d_M_meets_42 : decode b_M_meets 42 = .ok (.istore 6, 2) := by decide +kernel
theorem d_M_meets_44 : decode b_M_meets 44 = .ok (.iload 4, 2) := by decide +kernel
theorem d_M_meets_46 : decode b_M_meets 46 = .ok (.bipush 16, 2) := by decide +kernel
theorem d_M_meets_48 : decode b_M_meets 48 = .ok (.idiv, 1) := by decide +kernel
theorem d_M_meets_49 : decode b_M_meets 49 = .ok (.sipush 128, 3) := by decide +kernel
theorem d_M_meets_52 : decode b_M_meets 52 = .ok (.irem, 1) := by decide +kernel
theorem d_M_meets_53 : decode b_M_meets 53 = .ok (.istore 7, 2) := by decide +kernel
theorem d_M_meets_55 : decode b_M_meets 55 = .ok (.iload 7, 2) := by decide +kernel
theorem d_M_meets_57 : decode b_M_meets 57 = .ok (.bipush 61, 2) := by decide +kernel
theorem d_M_meets_59 : decode b_M_meets 59 = .ok (.if_icmp .ne 18, 3) := by decide +kernel
theorem d_M_meets_62 : decode b_M_meets 62 = .ok (.iload 5, 2) := by decide +kernel
theorem d_M_meets_64 : decode b_M_meets 64 = .ok (.iload 6, 2) := by decide +kernel
theorem d_M_meets_66 : decode b_M_meets 66 = .ok (.if_icmp .ne 7, 3) := by decide +kernel
theorem d_M_meets_69 : decode b_M_meets 69 = .ok (.iconst 1, 1) := by decide +kernel
theorem d_M_meets_70 : decode b_M_meets 70 = .ok (.goto 63, 3) := by decide +kernel
theorem d_M_meets_73 : decode b_M_meets 73 = .ok (.iconst 0, 1) := by decide +kernel
theorem d_M_meets_74 : decode b_M_meets 74 = .ok (.goto 59, 3) := by decide +kernel
theorem d_M_meets_77 : decode b_M_meets 77 = .ok (.iload 7, 2) := by decide +kernel
theorem d_M_meets_79 : decode b_M_meets 79 = .ok (.bipush 35, 2) := by decide +kernel
theorem d_M_meets_81 : decode b_M_meets 81 = .ok (.if_icmp .ne 18, 3) := by decide +kernel
theorem d_M_meets_84 : decode b_M_meets 84 = .ok (.iload 5, 2) := by decide +kernel
theorem d_M_meets_86 : decode b_M_meets 86 = .ok (.iload 6, 2) := by decide +kernel
theorem d_M_meets_88 : decode b_M_meets 88 = .ok (.if_icmp .eq 7, 3) := by decide +kernel
theorem d_M_meets_91 : decode b_M_meets 91 = .ok (.iconst 1, 1) := by decide +kernel
theorem d_M_meets_92 : decode b_M_meets 92 = .ok (.goto 41, 3) := by decide +kernel
theorem d_M_meets_95 : decode b_M_meets 95 = .ok (.iconst 0, 1) := by decide +kernel
theorem d_M_meets_96 : decode b_M_meets 96 = .ok (.goto 37, 3) := by decide +kernel
theorem d_M_meets_99 : decode b_M_meets 99 = .ok (.iload 7, 2) := by decide +kernel
theorem d_M_meets_101 : decode b_M_meets 101 = .ok (.bipush 60, 2) := by decide +kernel
theorem d_M_meets_103 : decode b_M_meets 103 = .ok (.if_icmp .ne 18, 3) := by decide +kernel
theorem d_M_meets_106 : decode b_M_meets 106 = .ok (.iload 5, 2) := by decide +kernel
theorem d_M_meets_108 : decode b_M_meets 108 = .ok (.iload 6, 2) := by decide +kernel
theorem d_M_meets_110 : decode b_M_meets 110 = .ok (.if_icmp .ge 7, 3) := by decide +kernel
theorem d_M_meets_113 : decode b_M_meets 113 = .ok (.iconst 1, 1) := by decide +kernel
theorem d_M_meets_114 : decode b_M_meets 114 = .ok (.goto 19, 3) := by decide +kernel
theorem d_M_meets_117 : decode b_M_meets 117 = .ok (.iconst 0, 1) := by decide +kernel
theorem d_M_meets_118 : decode b_M_meets 118 = .ok (.goto 15, 3) := by decide +kernel
theorem d_M_meets_121 : decode b_M_meets 121 = .ok (.iload 5, 2) := by decide +kernel
theorem d_M_meets_123 : decode b_M_meets 123 = .ok (.iload 6, 2) := by decide +kernel
theorem d_M_meets_125 : decode b_M_meets 125 = .ok (.if_icmp .le 7, 3) := by decide +kernel
theorem d_M_meets_128 : decode b_M_meets 128 = .ok (.iconst 1, 1) := by decide +kernel
theorem d_M_meets_129 : decode b_M_meets 129 = .ok (.goto 4, 3) := by decide +kernel
theorem d_M_meets_132 : decode b_M_meets 132 = .ok (.iconst 0, 1) := by decide +kernel
theorem d_M_meets_133 : decode b_M_meets 133 = .ok (.istore 8, 2) := by decide +kernel
theorem d_M_meets_135 : decode b_M_meets 135 = .ok (.iload 8, 2) := by decide +kernel
theorem d_M_meets_137 : decode b_M_meets 137 = .ok (.ifCond .ne 5, 3) := by decide +kernel
theorem d_M_meets_140 : decode b_M_meets 140 = .ok (.iconst 0, 1) := by decide +kernel
theorem d_M_meets_141 : decode b_M_meets 141 = .ok (.ireturn, 1) := by decide +kernel
theorem d_M_meets_142 : decode b_M_meets 142 = .ok (.iinc 3 1, 3) := by decide +kernel
theorem d_M_meets_145 : decode b_M_meets 145 = .ok (.goto (-143), 3) := by decide +kernel
theorem d_M_meets_148 : decode b_M_meets 148 = .ok (.iconst 1, 1) := by decide +kernel
theorem d_M_meets_149 : decode b_M_meets 149 = .ok (.ireturn, 1) := by decide +kernel
theorem d_M_weight_0 : decode b_M_weight 0 = .ok (.iload_n 2, 1) := by decide +kernel
theorem d_M_weight_1 : decode b_M_weight 1 = .ok (.iconst 0, 1) := by decide +kernel
theorem d_M_weight_2 : decode b_M_weight 2 = .ok (.invokestatic 156, 3) := by decide +kernel
theorem d_M_weight_5 : decode b_M_weight 5 = .ok (.istore_n 3, 1) := by decide +kernel
theorem d_M_weight_6 : decode b_M_weight 6 = .ok (.iload_n 2, 1) := by decide +kernel
theorem d_M_weight_7 : decode b_M_weight 7 = .ok (.iconst 1, 1) := by decide +kernel
theorem d_M_weight_8 : decode b_M_weight 8 = .ok (.invokestatic 156, 3) := by decide +kernel
theorem d_M_weight_11 : decode b_M_weight 11 = .ok (.istore 4, 2) := by decide +kernel
theorem d_M_weight_13 : decode b_M_weight 13 = .ok (.iload_n 2, 1) := by decide +kernel
theorem d_M_weight_14 : decode b_M_weight 14 = .ok (.iconst 2, 1) := by decide +kernel
theorem d_M_weight_15 : decode b_M_weight 15 = .ok (.invokestatic 156, 3) := by decide +kernel
theorem d_M_weight_18 : decode b_M_weight 18 = .ok (.istore 5, 2) := by decide +kernel
theorem d_M_weight_20 : decode b_M_weight 20 = .ok (.iload_n 2, 1) := by decide +kernel
theorem d_M_weight_21 : decode b_M_weight 21 = .ok (.iconst 3, 1) := by decide +kernel
theorem d_M_weight_22 : decode b_M_weight 22 = .ok (.invokestatic 156, 3) := by decide +kernel
theorem d_M_weight_25 : decode b_M_weight 25 = .ok (.istore 6, 2) := by decide +kernel
theorem d_M_weight_27 : decode b_M_weight 27 = .ok (.aload_n 0, 1) := by decide +kernel
theorem d_M_weight_28 : decode b_M_weight 28 = .ok (.getfield 38, 3) := by decide +kernel
theorem d_M_weight_31 : decode b_M_weight 31 = .ok (.iload_n 1, 1) := by decide +kernel
theorem d_M_weight_32 : decode b_M_weight 32 = .ok (.iaload, 1) := by decide +kernel
theorem d_M_weight_33 : decode b_M_weight 33 = .ok (.istore 7, 2) := by decide +kernel
theorem d_M_weight_35 : decode b_M_weight 35 = .ok (.iload 7, 2) := by decide +kernel
theorem d_M_weight_37 : decode b_M_weight 37 = .ok (.iconst 2, 1) := by decide +kernel
theorem d_M_weight_38 : decode b_M_weight 38 = .ok (.irem, 1) := by decide +kernel
theorem d_M_weight_39 : decode b_M_weight 39 = .ok (.ifCond .ne 7, 3) := by decide +kernel
theorem d_M_weight_42 : decode b_M_weight 42 = .ok (.iload_n 3, 1) := by decide +kernel
theorem d_M_weight_43 : decode b_M_weight 43 = .ok (.ifCond .gt 36, 3) := by decide +kernel
theorem d_M_weight_46 : decode b_M_weight 46 = .ok (.iload 7, 2) := by decide +kernel
theorem d_M_weight_48 : decode b_M_weight 48 = .ok (.iconst 4, 1) := by decide +kernel
theorem d_M_weight_49 : decode b_M_weight 49 = .ok (.if_icmp .ne 8, 3) := by decide +kernel
theorem d_M_weight_52 : decode b_M_weight 52 = .ok (.iload 4, 2) := by decide +kernel
theorem d_M_weight_54 : decode b_M_weight 54 = .ok (.ifCond .gt 25, 3) := by decide +kernel
theorem d_M_weight_57 : decode b_M_weight 57 = .ok (.iload 7, 2) := by decide +kernel
theorem d_M_weight_59 : decode b_M_weight 59 = .ok (.iconst 1, 1) := by decide +kernel
theorem d_M_weight_60 : decode b_M_weight 60 = .ok (.if_icmp .ne 8, 3) := by decide +kernel
theorem d_M_weight_63 : decode b_M_weight 63 = .ok (.iload 5, 2) := by decide +kernel
theorem d_M_weight_65 : decode b_M_weight 65 = .ok (.ifCond .gt 14, 3) := by decide +kernel
theorem d_M_weight_68 : decode b_M_weight 68 = .ok (.iload 7, 2) := by decide +kernel
theorem d_M_weight_70 : decode b_M_weight 70 = .ok (.iconst 4, 1) := by decide +kernel
theorem d_M_weight_71 : decode b_M_weight 71 = .ok (.if_icmp .ge 12, 3) := by decide +kernel
theorem d_M_weight_74 : decode b_M_weight 74 = .ok (.iload 6, 2) := by decide +kernel
theorem d_M_weight_76 : decode b_M_weight 76 = .ok (.ifCond .le 7, 3) := by decide +kernel
theorem d_M_weight_79 : decode b_M_weight 79 = .ok (.iconst 1, 1) := by decide +kernel
theorem d_M_weight_80 : decode b_M_weight 80 = .ok (.goto 4, 3) := by decide +kernel
theorem d_M_weight_83 : decode b_M_weight 83 = .ok (.iconst 0, 1) := by decide +kernel
theorem d_M_weight_84 : decode b_M_weight 84 = .ok (.istore 8, 2) := by decide +kernel
theorem d_M_weight_86 : decode b_M_weight 86 = .ok (.iload 8, 2) := by decide +kernel
theorem d_M_weight_88 : decode b_M_weight 88 = .ok (.ifCond .eq 5, 3) := by decide +kernel
theorem d_M_weight_91 : decode b_M_weight 91 = .ok (.lconst 0, 1) := by decide +kernel
theorem d_M_weight_92 : decode b_M_weight 92 = .ok (.lreturn, 1) := by decide +kernel
theorem d_M_weight_93 : decode b_M_weight 93 = .ok (.lconst 1, 1) := by decide +kernel
theorem d_M_weight_94 : decode b_M_weight 94 = .ok (.lstore 9, 2) := by decide +kernel
theorem d_M_weight_96 : decode b_M_weight 96 = .ok (.iload 7, 2) := by decide +kernel
theorem d_M_weight_98 : decode b_M_weight 98 = .ok (.iconst 1, 1) := by decide +kernel
theorem d_M_weight_99 : decode b_M_weight 99 = .ok (.iand, 1) := by decide +kernel
theorem d_M_weight_100 : decode b_M_weight 100 = .ok (.ifCond .eq 21, 3) := by decide +kernel
theorem d_M_weight_103 : decode b_M_weight 103 = .ok (.lload 9, 2) := by decide +kernel
theorem d_M_weight_105 : decode b_M_weight 105 = .ok (.aload_n 0, 1) := by decide +kernel
theorem d_M_weight_106 : decode b_M_weight 106 = .ok (.getfield 7, 3) := by decide +kernel
theorem d_M_weight_109 : decode b_M_weight 109 = .ok (.iconst 0, 1) := by decide +kernel
theorem d_M_weight_110 : decode b_M_weight 110 = .ok (.iload_n 3, 1) := by decide +kernel
theorem d_M_weight_111 : decode b_M_weight 111 = .ok (.iload 4, 2) := by decide +kernel
theorem d_M_weight_113 : decode b_M_weight 113 = .ok (.invokestatic 142, 3) := by decide +kernel
theorem d_M_weight_116 : decode b_M_weight 116 = .ok (.iaload, 1) := by decide +kernel
theorem d_M_weight_117 : decode b_M_weight 117 = .ok (.i2l, 1) := by decide +kernel
theorem d_M_weight_118 : decode b_M_weight 118 = .ok (.lmul, 1) := by decide +kernel
theorem d_M_weight_119 : decode b_M_weight 119 = .ok (.lstore 9, 2) := by decide +kernel
theorem d_M_weight_121 : decode b_M_weight 121 = .ok (.iload 7, 2) := by decide +kernel
theorem d_M_weight_123 : decode b_M_weight 123 = .ok (.iconst 2, 1) := by decide +kernel
theorem d_M_weight_124 : decode b_M_weight 124 = .ok (.iand, 1) := by decide +kernel
theorem d_M_weight_125 : decode b_M_weight 125 = .ok (.ifCond .eq 22, 3) := by decide +kernel
theorem d_M_weight_128 : decode b_M_weight 128 = .ok (.lload 9, 2) := by decide +kernel
theorem d_M_weight_130 : decode b_M_weight 130 = .ok (.aload_n 0, 1) := by decide +kernel
theorem d_M_weight_131 : decode b_M_weight 131 = .ok (.getfield 7, 3) := by decide +kernel
theorem d_M_weight_134 : decode b_M_weight 134 = .ok (.iconst 1, 1) := by decide +kernel
theorem d_M_weight_135 : decode b_M_weight 135 = .ok (.iload 4, 2) := by decide +kernel
theorem d_M_weight_137 : decode b_M_weight 137 = .ok (.iload 5, 2) := by decide +kernel
theorem d_M_weight_139 : decode b_M_weight 139 = .ok (.invokestatic 142, 3) := by decide +kernel
theorem d_M_weight_142 : decode b_M_weight 142 = .ok (.iaload, 1) := by decide +kernel
theorem d_M_weight_143 : decode b_M_weight 143 = .ok (.i2l, 1) := by decide +kernel
theorem d_M_weight_144 : decode b_M_weight 144 = .ok (.lmul, 1) := by decide +kernel
theorem d_M_weight_145 : decode b_M_weight 145 = .ok (.lstore 9, 2) := by decide +kernel
theorem d_M_weight_147 : decode b_M_weight 147 = .ok (.iload 7, 2) := by decide +kernel
theorem d_M_weight_149 : decode b_M_weight 149 = .ok (.iconst 4, 1) := by decide +kernel
theorem d_M_weight_150 : decode b_M_weight 150 = .ok (.iand, 1) := by decide +kernel
theorem d_M_weight_151 : decode b_M_weight 151 = .ok (.ifCond .eq 22, 3) := by decide +kernel
theorem d_M_weight_154 : decode b_M_weight 154 = .ok (.lload 9, 2) := by decide +kernel
theorem d_M_weight_156 : decode b_M_weight 156 = .ok (.aload_n 0, 1) := by decide +kernel
theorem d_M_weight_157 : decode b_M_weight 157 = .ok (.getfield 7, 3) := by decide +kernel
theorem d_M_weight_160 : decode b_M_weight 160 = .ok (.iconst 2, 1) := by decide +kernel
theorem d_M_weight_161 : decode b_M_weight 161 = .ok (.iload 5, 2) := by decide +kernel
theorem d_M_weight_163 : decode b_M_weight 163 = .ok (.iload 6, 2) := by decide +kernel
theorem d_M_weight_165 : decode b_M_weight 165 = .ok (.invokestatic 142, 3) := by decide +kernel
theorem d_M_weight_168 : decode b_M_weight 168 = .ok (.iaload, 1) := by decide +kernel
theorem d_M_weight_169 : decode b_M_weight 169 = .ok (.i2l, 1) := by decide +kernel
theorem d_M_weight_170 : decode b_M_weight 170 = .ok (.lmul, 1) := by decide +kernel
theorem d_M_weight_171 : decode b_M_weight 171 = .ok (.lstore 9, 2) := by decide +kernel
theorem d_M_weight_173 : decode b_M_weight 173 = .ok (.lload 9, 2) := by decide +kernel
theorem d_M_weight_175 : decode b_M_weight 175 = .ok (.lreturn, 1) := by decide +kernel
theorem d_M_power_0 : decode b_M_power 0 = .ok (.iload_n 1, 1) := by decide +kernel
theorem d_M_power_1 : decode b_M_power 1 = .ok (.ifCond .ne 7, 3) := by decide +kernel
theorem d_M_power_4 : decode b_M_power 4 = .ok (.iconst 1, 1) := by decide +kernel
theorem d_M_power_5 : decode b_M_power 5 = .ok (.goto 15, 3) := by decide +kernel
theorem d_M_power_8 : decode b_M_power 8 = .ok (.iload_n 1, 1) := by decide +kernel
theorem d_M_power_9 : decode b_M_power 9 = .ok (.iconst 1, 1) := by decide +kernel
theorem d_M_power_10 : decode b_M_power 10 = .ok (.if_icmp .ne 7, 3) := by decide +kernel
theorem d_M_power_13 : decode b_M_power 13 = .ok (.iload_n 0, 1) := by decide +kernel
theorem d_M_power_14 : decode b_M_power 14 = .ok (.goto 6, 3) := by decide +kernel
theorem d_M_power_17 : decode b_M_power 17 = .ok (.iload_n 0, 1) := by decide +kernel
theorem d_M_power_18 : decode b_M_power 18 = .ok (.iload_n 0, 1) := by decide +kernel
theorem d_M_power_19 : decode b_M_power 19 = .ok (.imul, 1) := by decide +kernel
theorem d_M_power_20 : decode b_M_power 20 = .ok (.ireturn, 1) := by decide +kernel
theorem d_M_value_0 : decode b_M_value 0 = .ok (.lconst 0, 1) := by decide +kernel
theorem d_M_value_1 : decode b_M_value 1 = .ok (.lstore_n 3, 1) := by decide +kernel
theorem d_M_value_2 : decode b_M_value 2 = .ok (.iconst 0, 1) := by decide +kernel
theorem d_M_value_3 : decode b_M_value 3 = .ok (.istore 5, 2) := by decide +kernel
theorem d_M_value_5 : decode b_M_value 5 = .ok (.iload 5, 2) := by decide +kernel
theorem d_M_value_7 : decode b_M_value 7 = .ok (.bipush 81, 2) := by decide +kernel
theorem d_M_value_9 : decode b_M_value 9 = .ok (.if_icmp .ge 101, 3) := by decide +kernel
theorem d_M_value_12 : decode b_M_value 12 = .ok (.aload_n 0, 1) := by decide +kernel
theorem d_M_value_13 : decode b_M_value 13 = .ok (.getfield 50, 3) := by decide +kernel
theorem d_M_value_16 : decode b_M_value 16 = .ok (.bipush 81, 2) := by decide +kernel
theorem d_M_value_18 : decode b_M_value 18 = .ok (.iload_n 1, 1) := by decide +kernel
theorem d_M_value_19 : decode b_M_value 19 = .ok (.imul, 1) := by decide +kernel
theorem d_M_value_20 : decode b_M_value 20 = .ok (.iload 5, 2) := by decide +kernel
theorem d_M_value_22 : decode b_M_value 22 = .ok (.iadd, 1) := by decide +kernel
theorem d_M_value_23 : decode b_M_value 23 = .ok (.iaload, 1) := by decide +kernel
theorem d_M_value_24 : decode b_M_value 24 = .ok (.i2l, 1) := by decide +kernel
theorem d_M_value_25 : decode b_M_value 25 = .ok (.lstore 6, 2) := by decide +kernel
theorem d_M_value_27 : decode b_M_value 27 = .ok (.lload 6, 2) := by decide +kernel
theorem d_M_value_29 : decode b_M_value 29 = .ok (.lconst 0, 1) := by decide +kernel
theorem d_M_value_30 : decode b_M_value 30 = .ok (.lcmp, 1) := by decide +kernel
theorem d_M_value_31 : decode b_M_value 31 = .ok (.ifCond .eq 73, 3) := by decide +kernel
theorem d_M_value_34 : decode b_M_value 34 = .ok (.lload 6, 2) := by decide +kernel
theorem d_M_value_36 : decode b_M_value 36 = .ok (.iload_n 2, 1) := by decide +kernel
theorem d_M_value_37 : decode b_M_value 37 = .ok (.iconst 0, 1) := by decide +kernel
theorem d_M_value_38 : decode b_M_value 38 = .ok (.invokestatic 156, 3) := by decide +kernel
theorem d_M_value_41 : decode b_M_value 41 = .ok (.iload 5, 2) := by decide +kernel
theorem d_M_value_43 : decode b_M_value 43 = .ok (.bipush 27, 2) := by decide +kernel
theorem d_M_value_45 : decode b_M_value 45 = .ok (.idiv, 1) := by decide +kernel
theorem d_M_value_46 : decode b_M_value 46 = .ok (.invokestatic 160, 3) := by decide +kernel
theorem d_M_value_49 : decode b_M_value 49 = .ok (.iload_n 2, 1) := by decide +kernel
theorem d_M_value_50 : decode b_M_value 50 = .ok (.iconst 1, 1) := by decide +kernel
theorem d_M_value_51 : decode b_M_value 51 = .ok (.invokestatic 156, 3) := by decide +kernel
theorem d_M_value_54 : decode b_M_value 54 = .ok (.iload 5, 2) := by decide +kernel
theorem d_M_value_56 : decode b_M_value 56 = .ok (.bipush 9, 2) := by decide +kernel
theorem d_M_value_58 : decode b_M_value 58 = .ok (.idiv, 1) := by decide +kernel
theorem d_M_value_59 : decode b_M_value 59 = .ok (.iconst 3, 1) := by decide +kernel
theorem d_M_value_60 : decode b_M_value 60 = .ok (.irem, 1) := by decide +kernel
theorem d_M_value_61 : decode b_M_value 61 = .ok (.invokestatic 160, 3) := by decide +kernel
theorem d_M_value_64 : decode b_M_value 64 = .ok (.imul, 1) := by decide +kernel
theorem d_M_value_65 : decode b_M_value 65 = .ok (.i2l, 1) := by decide +kernel
theorem d_M_value_66 : decode b_M_value 66 = .ok (.lmul, 1) := by decide +kernel
theorem d_M_value_67 : decode b_M_value 67 = .ok (.lstore 6, 2) := by decide +kernel
theorem d_M_value_69 : decode b_M_value 69 = .ok (.lload_n 3, 1) := by decide +kernel
theorem d_M_value_70 : decode b_M_value 70 = .ok (.lload 6, 2) := by decide +kernel
theorem d_M_value_72 : decode b_M_value 72 = .ok (.iload_n 2, 1) := by decide +kernel
theorem d_M_value_73 : decode b_M_value 73 = .ok (.iconst 2, 1) := by decide +kernel
theorem d_M_value_74 : decode b_M_value 74 = .ok (.invokestatic 156, 3) := by decide +kernel
theorem d_M_value_77 : decode b_M_value 77 = .ok (.iload 5, 2) := by decide +kernel
theorem d_M_value_79 : decode b_M_value 79 = .ok (.iconst 3, 1) := by decide +kernel
theorem d_M_value_80 : decode b_M_value 80 = .ok (.idiv, 1) := by decide +kernel
theorem d_M_value_81 : decode b_M_value 81 = .ok (.iconst 3, 1) := by decide +kernel
theorem d_M_value_82 : decode b_M_value 82 = .ok (.irem, 1) := by decide +kernel
theorem d_M_value_83 : decode b_M_value 83 = .ok (.invokestatic 160, 3) := by decide +kernel
theorem d_M_value_86 : decode b_M_value 86 = .ok (.i2l, 1) := by decide +kernel
theorem d_M_value_87 : decode b_M_value 87 = .ok (.lmul, 1) := by decide +kernel
theorem d_M_value_88 : decode b_M_value 88 = .ok (.iload_n 2, 1) := by decide +kernel
theorem d_M_value_89 : decode b_M_value 89 = .ok (.iconst 3, 1) := by decide +kernel
theorem d_M_value_90 : decode b_M_value 90 = .ok (.invokestatic 156, 3) := by decide +kernel
theorem d_M_value_93 : decode b_M_value 93 = .ok (.iload 5, 2) := by decide +kernel
theorem d_M_value_95 : decode b_M_value 95 = .ok (.iconst 3, 1) := by decide +kernel
theorem d_M_value_96 : decode b_M_value 96 = .ok (.irem, 1) := by decide +kernel
theorem d_M_value_97 : decode b_M_value 97 = .ok (.invokestatic 160, 3) := by decide +kernel
theorem d_M_value_100 : decode b_M_value 100 = .ok (.i2l, 1) := by decide +kernel
theorem d_M_value_101 : decode b_M_value 101 = .ok (.lmul, 1) := by decide +kernel
theorem d_M_value_102 : decode b_M_value 102 = .ok (.ladd, 1) := by decide +kernel
theorem d_M_value_103 : decode b_M_value 103 = .ok (.lstore_n 3, 1) := by decide +kernel
theorem d_M_value_104 : decode b_M_value 104 = .ok (.iinc 5 1, 3) := by decide +kernel
theorem d_M_value_107 : decode b_M_value 107 = .ok (.goto (-102), 3) := by decide +kernel
theorem d_M_value_110 : decode b_M_value 110 = .ok (.lload_n 3, 1) := by decide +kernel
theorem d_M_value_111 : decode b_M_value 111 = .ok (.lreturn, 1) := by decide +kernel
theorem d_M_collect_0 : decode b_M_collect 0 = .ok (.lconst 0, 1) := by decide +kernel
theorem d_M_collect_1 : decode b_M_collect 1 = .ok (.lstore 4, 2) := by decide +kernel
theorem d_M_collect_3 : decode b_M_collect 3 = .ok (.iconst 0, 1) := by decide +kernel
theorem d_M_collect_4 : decode b_M_collect 4 = .ok (.istore 6, 2) := by decide +kernel
theorem d_M_collect_6 : decode b_M_collect 6 = .ok (.iload 6, 2) := by decide +kernel
theorem d_M_collect_8 : decode b_M_collect 8 = .ok (.sipush 1296, 3) := by decide +kernel
theorem d_M_collect_11 : decode b_M_collect 11 = .ok (.if_icmp .ge 94, 3) := by decide +kernel
theorem d_M_collect_14 : decode b_M_collect 14 = .ok (.iload_n 3, 1) := by decide +kernel
theorem d_M_collect_15 : decode b_M_collect 15 = .ok (.ifCond .ne 27, 3) := by decide +kernel
theorem d_M_collect_18 : decode b_M_collect 18 = .ok (.aload_n 0, 1) := by decide +kernel
theorem d_M_collect_19 : decode b_M_collect 19 = .ok (.getfield 41, 3) := by decide +kernel
theorem d_M_collect_22 : decode b_M_collect 22 = .ok (.iload_n 1, 1) := by decide +kernel
theorem d_M_collect_23 : decode b_M_collect 23 = .ok (.iaload, 1) := by decide +kernel
theorem d_M_collect_24 : decode b_M_collect 24 = .ok (.ifCond .lt 18, 3) := by decide +kernel
theorem d_M_collect_27 : decode b_M_collect 27 = .ok (.iload 6, 2) := by decide +kernel
theorem d_M_collect_29 : decode b_M_collect 29 = .ok (.aload_n 0, 1) := by decide +kernel
theorem d_M_collect_30 : decode b_M_collect 30 = .ok (.getfield 41, 3) := by decide +kernel
theorem d_M_collect_33 : decode b_M_collect 33 = .ok (.iload_n 1, 1) := by decide +kernel
theorem d_M_collect_34 : decode b_M_collect 34 = .ok (.iaload, 1) := by decide +kernel
theorem d_M_collect_35 : decode b_M_collect 35 = .ok (.invokestatic 156, 3) := by decide +kernel
theorem d_M_collect_38 : decode b_M_collect 38 = .ok (.iload_n 2, 1) := by decide +kernel
theorem d_M_collect_39 : decode b_M_collect 39 = .ok (.if_icmp .ne 7, 3) := by decide +kernel
theorem d_M_collect_42 : decode b_M_collect 42 = .ok (.iconst 1, 1) := by decide +kernel
theorem d_M_collect_43 : decode b_M_collect 43 = .ok (.goto 4, 3) := by decide +kernel
theorem d_M_collect_46 : decode b_M_collect 46 = .ok (.iconst 0, 1) := by decide +kernel
theorem d_M_collect_47 : decode b_M_collect 47 = .ok (.istore 7, 2) := by decide +kernel
theorem d_M_collect_49 : decode b_M_collect 49 = .ok (.iload 7, 2) := by decide +kernel
theorem d_M_collect_51 : decode b_M_collect 51 = .ok (.ifCond .eq 23, 3) := by decide +kernel
theorem d_M_collect_54 : decode b_M_collect 54 = .ok (.aload_n 0, 1) := by decide +kernel
theorem d_M_collect_55 : decode b_M_collect 55 = .ok (.iload_n 1, 1) := by decide +kernel
theorem d_M_collect_56 : decode b_M_collect 56 = .ok (.iload 6, 2) := by decide +kernel
theorem d_M_collect_58 : decode b_M_collect 58 = .ok (.invokevirtual 163, 3) := by decide +kernel
theorem d_M_collect_61 : decode b_M_collect 61 = .ok (.ifCond .eq 13, 3) := by decide +kernel
theorem d_M_collect_64 : decode b_M_collect 64 = .ok (.aload_n 0, 1) := by decide +kernel
theorem d_M_collect_65 : decode b_M_collect 65 = .ok (.iload_n 1, 1) := by decide +kernel
theorem d_M_collect_66 : decode b_M_collect 66 = .ok (.iload 6, 2) := by decide +kernel
theorem d_M_collect_68 : decode b_M_collect 68 = .ok (.invokevirtual 166, 3) := by decide +kernel
theorem d_M_collect_71 : decode b_M_collect 71 = .ok (.goto 4, 3) := by decide +kernel
theorem d_M_collect_74 : decode b_M_collect 74 = .ok (.lconst 0, 1) := by decide +kernel
theorem d_M_collect_75 : decode b_M_collect 75 = .ok (.lstore 8, 2) := by decide +kernel
theorem d_M_collect_77 : decode b_M_collect 77 = .ok (.lload 8, 2) := by decide +kernel
theorem d_M_collect_79 : decode b_M_collect 79 = .ok (.lconst 0, 1) := by decide +kernel
theorem d_M_collect_80 : decode b_M_collect 80 = .ok (.lcmp, 1) := by decide +kernel
theorem d_M_collect_81 : decode b_M_collect 81 = .ok (.ifCond .eq 18, 3) := by decide +kernel
theorem d_M_collect_84 : decode b_M_collect 84 = .ok (.lload 4, 2) := by decide +kernel
theorem d_M_collect_86 : decode b_M_collect 86 = .ok (.lload 8, 2) := by decide +kernel
theorem d_M_collect_88 : decode b_M_collect 88 = .ok (.aload_n 0, 1) := by decide +kernel
theorem d_M_collect_89 : decode b_M_collect 89 = .ok (.iload_n 1, 1) := by decide +kernel
theorem d_M_collect_90 : decode b_M_collect 90 = .ok (.iload 6, 2) := by decide +kernel
theorem d_M_collect_92 : decode b_M_collect 92 = .ok (.invokevirtual 170, 3) := by decide +kernel
theorem d_M_collect_95 : decode b_M_collect 95 = .ok (.lmul, 1) := by decide +kernel
theorem d_M_collect_96 : decode b_M_collect 96 = .ok (.ladd, 1) := by decide +kernel
theorem d_M_collect_97 : decode b_M_collect 97 = .ok (.lstore 4, 2) := by decide +kernel
theorem d_M_collect_99 : decode b_M_collect 99 = .ok (.iinc 6 1, 3) := by decide +kernel
theorem d_M_collect_102 : decode b_M_collect 102 = .ok (.goto (-96), 3) := by decide +kernel
theorem d_M_collect_105 : decode b_M_collect 105 = .ok (.lload 4, 2) := by decide +kernel
theorem d_M_collect_107 : decode b_M_collect 107 = .ok (.lreturn, 1) := by decide +kernel
theorem d_M_answer_0 : decode b_M_answer 0 = .ok (.iload_n 1, 1) := by decide +kernel
theorem d_M_answer_1 : decode b_M_answer 1 = .ok (.iconst 4, 1) := by decide +kernel
theorem d_M_answer_2 : decode b_M_answer 2 = .ok (.invokestatic 138, 3) := by decide +kernel
theorem d_M_answer_5 : decode b_M_answer 5 = .ok (.ifCond .eq 21, 3) := by decide +kernel
theorem d_M_answer_8 : decode b_M_answer 8 = .ok (.iload_n 2, 1) := by decide +kernel
theorem d_M_answer_9 : decode b_M_answer 9 = .ok (.bipush 6, 2) := by decide +kernel
theorem d_M_answer_11 : decode b_M_answer 11 = .ok (.invokestatic 138, 3) := by decide +kernel
theorem d_M_answer_14 : decode b_M_answer 14 = .ok (.ifCond .eq 12, 3) := by decide +kernel
theorem d_M_answer_17 : decode b_M_answer 17 = .ok (.aload_n 0, 1) := by decide +kernel
theorem d_M_answer_18 : decode b_M_answer 18 = .ok (.getfield 31, 3) := by decide +kernel
theorem d_M_answer_21 : decode b_M_answer 21 = .ok (.iload_n 1, 1) := by decide +kernel
theorem d_M_answer_22 : decode b_M_answer 22 = .ok (.baload, 1) := by decide +kernel
theorem d_M_answer_23 : decode b_M_answer 23 = .ok (.ifCond .ne 7, 3) := by decide +kernel
theorem d_M_answer_26 : decode b_M_answer 26 = .ok (.ldc2_w 173, 3) := by decide +kernel
theorem d_M_answer_29 : decode b_M_answer 29 = .ok (.lreturn, 1) := by decide +kernel
theorem d_M_answer_30 : decode b_M_answer 30 = .ok (.aload_n 0, 1) := by decide +kernel
theorem d_M_answer_31 : decode b_M_answer 31 = .ok (.getfield 41, 3) := by decide +kernel
theorem d_M_answer_34 : decode b_M_answer 34 = .ok (.iload_n 1, 1) := by decide +kernel
theorem d_M_answer_35 : decode b_M_answer 35 = .ok (.iaload, 1) := by decide +kernel
theorem d_M_answer_36 : decode b_M_answer 36 = .ok (.ifCond .ge 11, 3) := by decide +kernel
theorem d_M_answer_39 : decode b_M_answer 39 = .ok (.iload_n 2, 1) := by decide +kernel
theorem d_M_answer_40 : decode b_M_answer 40 = .ok (.ifCond .le 7, 3) := by decide +kernel
theorem d_M_answer_43 : decode b_M_answer 43 = .ok (.lconst 0, 1) := by decide +kernel
theorem d_M_answer_44 : decode b_M_answer 44 = .ok (.goto 10, 3) := by decide +kernel
theorem d_M_answer_47 : decode b_M_answer 47 = .ok (.aload_n 0, 1) := by decide +kernel
theorem d_M_answer_48 : decode b_M_answer 48 = .ok (.iload_n 1, 1) := by decide +kernel
theorem d_M_answer_49 : decode b_M_answer 49 = .ok (.iload_n 2, 1) := by decide +kernel
theorem d_M_answer_50 : decode b_M_answer 50 = .ok (.iconst 0, 1) := by decide +kernel
theorem d_M_answer_51 : decode b_M_answer 51 = .ok (.invokevirtual 175, 3) := by decide +kernel
theorem d_M_answer_54 : decode b_M_answer 54 = .ok (.lreturn, 1) := by decide +kernel
theorem d_M_total_0 : decode b_M_total 0 = .ok (.iload_n 1, 1) := by decide +kernel
theorem d_M_total_1 : decode b_M_total 1 = .ok (.iconst 4, 1) := by decide +kernel
theorem d_M_total_2 : decode b_M_total 2 = .ok (.invokestatic 138, 3) := by decide +kernel
theorem d_M_total_5 : decode b_M_total 5 = .ok (.ifCond .eq 22, 3) := by decide +kernel
theorem d_M_total_8 : decode b_M_total 8 = .ok (.aload_n 0, 1) := by decide +kernel
theorem d_M_total_9 : decode b_M_total 9 = .ok (.getfield 31, 3) := by decide +kernel
theorem d_M_total_12 : decode b_M_total 12 = .ok (.iload_n 1, 1) := by decide +kernel
theorem d_M_total_13 : decode b_M_total 13 = .ok (.baload, 1) := by decide +kernel
theorem d_M_total_14 : decode b_M_total 14 = .ok (.ifCond .eq 13, 3) := by decide +kernel
theorem d_M_total_17 : decode b_M_total 17 = .ok (.aload_n 0, 1) := by decide +kernel
theorem d_M_total_18 : decode b_M_total 18 = .ok (.iload_n 1, 1) := by decide +kernel
theorem d_M_total_19 : decode b_M_total 19 = .ok (.iconst 0, 1) := by decide +kernel
theorem d_M_total_20 : decode b_M_total 20 = .ok (.iconst 1, 1) := by decide +kernel
theorem d_M_total_21 : decode b_M_total 21 = .ok (.invokevirtual 175, 3) := by decide +kernel
theorem d_M_total_24 : decode b_M_total 24 = .ok (.goto 6, 3) := by decide +kernel
theorem d_M_total_27 : decode b_M_total 27 = .ok (.ldc2_w 173, 3) := by decide +kernel
theorem d_M_total_30 : decode b_M_total 30 = .ok (.lreturn, 1) := by decide +kernel
theorem d_M_count_0 : decode b_M_count 0 = .ok (.iload_n 1, 1) := by decide +kernel
theorem d_M_count_1 : decode b_M_count 1 = .ok (.iload_n 2, 1) := by decide +kernel
theorem d_M_count_2 : decode b_M_count 2 = .ok (.iload_n 3, 1) := by decide +kernel
theorem d_M_count_3 : decode b_M_count 3 = .ok (.invokestatic 142, 3) := by decide +kernel
theorem d_M_count_6 : decode b_M_count 6 = .ok (.istore 4, 2) := by decide +kernel
theorem d_M_count_8 : decode b_M_count 8 = .ok (.iload 4, 2) := by decide +kernel
theorem d_M_count_10 : decode b_M_count 10 = .ok (.ifCond .ge 9, 3) := by decide +kernel
theorem d_M_count_13 : decode b_M_count 13 = .ok (.ldc2_w 173, 3) := by decide +kernel
theorem d_M_count_16 : decode b_M_count 16 = .ok (.goto 11, 3) := by decide +kernel
theorem d_M_count_19 : decode b_M_count 19 = .ok (.aload_n 0, 1) := by decide +kernel
theorem d_M_count_20 : decode b_M_count 20 = .ok (.getfield 7, 3) := by decide +kernel
theorem d_M_count_23 : decode b_M_count 23 = .ok (.iload 4, 2) := by decide +kernel
theorem d_M_count_25 : decode b_M_count 25 = .ok (.iaload, 1) := by decide +kernel
theorem d_M_count_26 : decode b_M_count 26 = .ok (.i2l, 1) := by decide +kernel
theorem d_M_count_27 : decode b_M_count 27 = .ok (.lreturn, 1) := by decide +kernel
theorem d_M_question_0 : decode b_M_question 0 = .ok (.iload_n 1, 1) := by decide +kernel
theorem d_M_question_1 : decode b_M_question 1 = .ok (.iconst 4, 1) := by decide +kernel
theorem d_M_question_2 : decode b_M_question 2 = .ok (.invokestatic 138, 3) := by decide +kernel
theorem d_M_question_5 : decode b_M_question 5 = .ok (.ifCond .eq 11, 3) := by decide +kernel
theorem d_M_question_8 : decode b_M_question 8 = .ok (.iload_n 2, 1) := by decide +kernel
theorem d_M_question_9 : decode b_M_question 9 = .ok (.iconst 5, 1) := by decide +kernel
theorem d_M_question_10 : decode b_M_question 10 = .ok (.invokestatic 138, 3) := by decide +kernel
theorem d_M_question_13 : decode b_M_question 13 = .ok (.ifCond .ne 5, 3) := by decide +kernel
theorem d_M_question_16 : decode b_M_question 16 = .ok (.iconst (-1), 1) := by decide +kernel
theorem d_M_question_17 : decode b_M_question 17 = .ok (.ireturn, 1) := by decide +kernel
theorem d_M_question_18 : decode b_M_question 18 = .ok (.iload_n 2, 1) := by decide +kernel
theorem d_M_question_19 : decode b_M_question 19 = .ok (.ifCond .ne 18, 3) := by decide +kernel
theorem d_M_question_22 : decode b_M_question 22 = .ok (.aload_n 0, 1) := by decide +kernel
theorem d_M_question_23 : decode b_M_question 23 = .ok (.getfield 31, 3) := by decide +kernel
theorem d_M_question_26 : decode b_M_question 26 = .ok (.iload_n 1, 1) := by decide +kernel
theorem d_M_question_27 : decode b_M_question 27 = .ok (.baload, 1) := by decide +kernel
theorem d_M_question_28 : decode b_M_question 28 = .ok (.ifCond .eq 7, 3) := by decide +kernel
theorem d_M_question_31 : decode b_M_question 31 = .ok (.iconst 1, 1) := by decide +kernel
theorem d_M_question_32 : decode b_M_question 32 = .ok (.goto 4, 3) := by decide +kernel
theorem d_M_question_35 : decode b_M_question 35 = .ok (.iconst 0, 1) := by decide +kernel
theorem d_M_question_36 : decode b_M_question 36 = .ok (.ireturn, 1) := by decide +kernel
theorem d_M_question_37 : decode b_M_question 37 = .ok (.aload_n 0, 1) := by decide +kernel
theorem d_M_question_38 : decode b_M_question 38 = .ok (.getfield 31, 3) := by decide +kernel
theorem d_M_question_41 : decode b_M_question 41 = .ok (.iload_n 1, 1) := by decide +kernel
theorem d_M_question_42 : decode b_M_question 42 = .ok (.baload, 1) := by decide +kernel
theorem d_M_question_43 : decode b_M_question 43 = .ok (.ifCond .ne 5, 3) := by decide +kernel
theorem d_M_question_46 : decode b_M_question 46 = .ok (.iconst (-1), 1) := by decide +kernel
theorem d_M_question_47 : decode b_M_question 47 = .ok (.ireturn, 1) := by decide +kernel
theorem d_M_question_48 : decode b_M_question 48 = .ok (.iload_n 2, 1) := by decide +kernel
theorem d_M_question_49 : decode b_M_question 49 = .ok (.iconst 1, 1) := by decide +kernel
theorem d_M_question_50 : decode b_M_question 50 = .ok (.if_icmp .ne 12, 3) := by decide +kernel
theorem d_M_question_53 : decode b_M_question 53 = .ok (.aload_n 0, 1) := by decide +kernel
theorem d_M_question_54 : decode b_M_question 54 = .ok (.getfield 35, 3) := by decide +kernel
theorem d_M_question_57 : decode b_M_question 57 = .ok (.iload_n 1, 1) := by decide +kernel
theorem d_M_question_58 : decode b_M_question 58 = .ok (.iaload, 1) := by decide +kernel
theorem d_M_question_59 : decode b_M_question 59 = .ok (.goto 37, 3) := by decide +kernel
theorem d_M_question_62 : decode b_M_question 62 = .ok (.iload_n 2, 1) := by decide +kernel
theorem d_M_question_63 : decode b_M_question 63 = .ok (.iconst 2, 1) := by decide +kernel
theorem d_M_question_64 : decode b_M_question 64 = .ok (.if_icmp .ne 12, 3) := by decide +kernel
theorem d_M_question_67 : decode b_M_question 67 = .ok (.aload_n 0, 1) := by decide +kernel
theorem d_M_question_68 : decode b_M_question 68 = .ok (.getfield 38, 3) := by decide +kernel
theorem d_M_question_71 : decode b_M_question 71 = .ok (.iload_n 1, 1) := by decide +kernel
theorem d_M_question_72 : decode b_M_question 72 = .ok (.iaload, 1) := by decide +kernel
theorem d_M_question_73 : decode b_M_question 73 = .ok (.goto 23, 3) := by decide +kernel
theorem d_M_question_76 : decode b_M_question 76 = .ok (.iload_n 2, 1) := by decide +kernel
theorem d_M_question_77 : decode b_M_question 77 = .ok (.iconst 3, 1) := by decide +kernel
theorem d_M_question_78 : decode b_M_question 78 = .ok (.if_icmp .ne 12, 3) := by decide +kernel
theorem d_M_question_81 : decode b_M_question 81 = .ok (.aload_n 0, 1) := by decide +kernel
theorem d_M_question_82 : decode b_M_question 82 = .ok (.getfield 41, 3) := by decide +kernel
theorem d_M_question_85 : decode b_M_question 85 = .ok (.iload_n 1, 1) := by decide +kernel
theorem d_M_question_86 : decode b_M_question 86 = .ok (.iaload, 1) := by decide +kernel
theorem d_M_question_87 : decode b_M_question 87 = .ok (.goto 9, 3) := by decide +kernel
theorem d_M_question_90 : decode b_M_question 90 = .ok (.aload_n 0, 1) := by decide +kernel
theorem d_M_question_91 : decode b_M_question 91 = .ok (.getfield 44, 3) := by decide +kernel
theorem d_M_question_94 : decode b_M_question 94 = .ok (.iload_n 1, 1) := by decide +kernel
theorem d_M_question_95 : decode b_M_question 95 = .ok (.iaload, 1) := by decide +kernel
theorem d_M_question_96 : decode b_M_question 96 = .ok (.ireturn, 1) := by decide +kernel
theorem d_M_state_0 : decode b_M_state 0 = .ok (.iload_n 1, 1) := by decide +kernel
theorem d_M_state_1 : decode b_M_state 1 = .ok (.ifCond .ne 8, 3) := by decide +kernel
theorem d_M_state_4 : decode b_M_state 4 = .ok (.aload_n 0, 1) := by decide +kernel
theorem d_M_state_5 : decode b_M_state 5 = .ok (.getfield 82, 3) := by decide +kernel
theorem d_M_state_8 : decode b_M_state 8 = .ok (.ireturn, 1) := by decide +kernel
theorem d_M_state_9 : decode b_M_state 9 = .ok (.iload_n 1, 1) := by decide +kernel
theorem d_M_state_10 : decode b_M_state 10 = .ok (.iconst 1, 1) := by decide +kernel
theorem d_M_state_11 : decode b_M_state 11 = .ok (.if_icmp .ne 8, 3) := by decide +kernel
theorem d_M_state_14 : decode b_M_state 14 = .ok (.aload_n 0, 1) := by decide +kernel
theorem d_M_state_15 : decode b_M_state 15 = .ok (.getfield 150, 3) := by decide +kernel
theorem d_M_state_18 : decode b_M_state 18 = .ok (.ireturn, 1) := by decide +kernel
theorem d_M_state_19 : decode b_M_state 19 = .ok (.iload_n 1, 1) := by decide +kernel
theorem d_M_state_20 : decode b_M_state 20 = .ok (.iconst 2, 1) := by decide +kernel
theorem d_M_state_21 : decode b_M_state 21 = .ok (.if_icmp .eq 5, 3) := by decide +kernel
theorem d_M_state_24 : decode b_M_state 24 = .ok (.iconst (-1), 1) := by decide +kernel
theorem d_M_state_25 : decode b_M_state 25 = .ok (.ireturn, 1) := by decide +kernel
theorem d_M_state_26 : decode b_M_state 26 = .ok (.iconst 0, 1) := by decide +kernel
theorem d_M_state_27 : decode b_M_state 27 = .ok (.istore_n 2, 1) := by decide +kernel
theorem d_M_state_28 : decode b_M_state 28 = .ok (.iconst 0, 1) := by decide +kernel
theorem d_M_state_29 : decode b_M_state 29 = .ok (.istore_n 3, 1) := by decide +kernel
theorem d_M_state_30 : decode b_M_state 30 = .ok (.iload_n 3, 1) := by decide +kernel
theorem d_M_state_31 : decode b_M_state 31 = .ok (.bipush 108, 2) := by decide +kernel
theorem d_M_state_33 : decode b_M_state 33 = .ok (.if_icmp .ge 21, 3) := by decide +kernel
theorem d_M_state_36 : decode b_M_state 36 = .ok (.aload_n 0, 1) := by decide +kernel
theorem d_M_state_37 : decode b_M_state 37 = .ok (.getfield 7, 3) := by decide +kernel
theorem d_M_state_40 : decode b_M_state 40 = .ok (.iload_n 3, 1) := by decide +kernel
theorem d_M_state_41 : decode b_M_state 41 = .ok (.iaload, 1) := by decide +kernel
theorem d_M_state_42 : decode b_M_state 42 = .ok (.ifCond .eq 6, 3) := by decide +kernel
theorem d_M_state_45 : decode b_M_state 45 = .ok (.iinc 2 1, 3) := by decide +kernel
theorem d_M_state_48 : decode b_M_state 48 = .ok (.iinc 3 1, 3) := by decide +kernel
theorem d_M_state_51 : decode b_M_state 51 = .ok (.goto (-21), 3) := by decide +kernel
theorem d_M_state_54 : decode b_M_state 54 = .ok (.iload_n 2, 1) := by decide +kernel
theorem d_M_state_55 : decode b_M_state 55 = .ok (.ireturn, 1) := by decide +kernel
