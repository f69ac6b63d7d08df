theorem d_M_readExpression_1 : decode b_M_readExpression 1 = .ok (.istore_n 2, 1) := by decide +kernel
theorem d_M_readExpression_2 : decode b_M_readExpression 2 = .ok (.iconst 0, 1) := by decide +kernel
theorem d_M_readExpression_3 : decode b_M_readExpression 3 = .ok (.istore_n 3, 1) := by decide +kernel
theorem d_M_readExpression_4 : decode b_M_readExpression 4 = .ok (.iconst 1, 1) := by decide +kernel
theorem d_M_readExpression_5 : decode b_M_readExpression 5 = .ok (.istore 4, 2) := by decide +kernel
theorem d_M_readExpression_7 : decode b_M_readExpression 7 = .ok (.aload_n 0, 1) := by decide +kernel
theorem d_M_readExpression_8 : decode b_M_readExpression 8 = .ok (.iconst 0, 1) := by decide +kernel
theorem d_M_readExpression_9 : decode b_M_readExpression 9 = .ok (.invokevirtual 103, 3) := by decide +kernel
theorem d_M_readExpression_12 : decode b_M_readExpression 12 = .ok (.iload_n 1, 1) := by decide +kernel
theorem d_M_readExpression_13 : decode b_M_readExpression 13 = .ok (.istore 5, 2) := by decide +kernel
theorem d_M_readExpression_15 : decode b_M_readExpression 15 = .ok (.iload 5, 2) := by decide +kernel
theorem d_M_readExpression_17 : decode b_M_readExpression 17 = .ok (.aload_n 0, 1) := by decide +kernel
theorem d_M_readExpression_18 : decode b_M_readExpression 18 = .ok (.getfield 82, 3) := by decide +kernel
theorem d_M_readExpression_21 : decode b_M_readExpression 21 = .ok (.if_icmp .gt 316, 3) := by decide +kernel
theorem d_M_readExpression_24 : decode b_M_readExpression 24 = .ok (.aload_n 0, 1) := by decide +kernel
theorem d_M_readExpression_25 : decode b_M_readExpression 25 = .ok (.iload 5, 2) := by decide +kernel
theorem d_M_readExpression_27 : decode b_M_readExpression 27 = .ok (.invokevirtual 100, 3) := by decide +kernel
theorem d_M_readExpression_30 : decode b_M_readExpression 30 = .ok (.istore 6, 2) := by decide +kernel
theorem d_M_readExpression_32 : decode b_M_readExpression 32 = .ok (.iload 4, 2) := by decide +kernel
theorem d_M_readExpression_34 : decode b_M_readExpression 34 = .ok (.ifCond .eq 128, 3) := by decide +kernel
theorem d_M_readExpression_37 : decode b_M_readExpression 37 = .ok (.iload 6, 2) := by decide +kernel
theorem d_M_readExpression_39 : decode b_M_readExpression 39 = .ok (.bipush 48, 2) := by decide +kernel
theorem d_M_readExpression_41 : decode b_M_readExpression 41 = .ok (.if_icmp .lt 10, 3) := by decide +kernel
theorem d_M_readExpression_44 : decode b_M_readExpression 44 = .ok (.iload 6, 2) := by decide +kernel
theorem d_M_readExpression_46 : decode b_M_readExpression 46 = .ok (.bipush 57, 2) := by decide +kernel
theorem d_M_readExpression_48 : decode b_M_readExpression 48 = .ok (.if_icmp .le 12, 3) := by decide +kernel
theorem d_M_readExpression_51 : decode b_M_readExpression 51 = .ok (.aload_n 0, 1) := by decide +kernel
theorem d_M_readExpression_52 : decode b_M_readExpression 52 = .ok (.iload 6, 2) := by decide +kernel
theorem d_M_readExpression_54 : decode b_M_readExpression 54 = .ok (.invokevirtual 106, 3) := by decide +kernel
theorem d_M_readExpression_57 : decode b_M_readExpression 57 = .ok (.ifCond .eq 7, 3) := by decide +kernel
theorem d_M_readExpression_60 : decode b_M_readExpression 60 = .ok (.iconst 1, 1) := by decide +kernel
theorem d_M_readExpression_61 : decode b_M_readExpression 61 = .ok (.goto 4, 3) := by decide +kernel
theorem d_M_readExpression_64 : decode b_M_readExpression 64 = .ok (.iconst 0, 1) := by decide +kernel
theorem d_M_readExpression_65 : decode b_M_readExpression 65 = .ok (.istore 7, 2) := by decide +kernel
theorem d_M_readExpression_67 : decode b_M_readExpression 67 = .ok (.iload 7, 2) := by decide +kernel
theorem d_M_readExpression_69 : decode b_M_readExpression 69 = .ok (.ifCond .ne 28, 3) := by decide +kernel
theorem d_M_readExpression_72 : decode b_M_readExpression 72 = .ok (.iload 6, 2) := by decide +kernel
theorem d_M_readExpression_74 : decode b_M_readExpression 74 = .ok (.bipush 40, 2) := by decide +kernel
theorem d_M_readExpression_76 : decode b_M_readExpression 76 = .ok (.if_icmp .eq 10, 3) := by decide +kernel
theorem d_M_readExpression_79 : decode b_M_readExpression 79 = .ok (.iload 6, 2) := by decide +kernel
theorem d_M_readExpression_81 : decode b_M_readExpression 81 = .ok (.bipush 45, 2) := by decide +kernel
theorem d_M_readExpression_83 : decode b_M_readExpression 83 = .ok (.if_icmp .ne 9, 3) := by decide +kernel
theorem d_M_readExpression_86 : decode b_M_readExpression 86 = .ok (.iload_n 3, 1) := by decide +kernel
theorem d_M_readExpression_87 : decode b_M_readExpression 87 = .ok (.bipush 8, 2) := by decide +kernel
theorem d_M_readExpression_89 : decode b_M_readExpression 89 = .ok (.if_icmp .ne 8, 3) := by decide +kernel
theorem d_M_readExpression_92 : decode b_M_readExpression 92 = .ok (.iconst (-1), 1) := by decide +kernel
theorem d_M_readExpression_93 : decode b_M_readExpression 93 = .ok (.iload 5, 2) := by decide +kernel
theorem d_M_readExpression_95 : decode b_M_readExpression 95 = .ok (.isub, 1) := by decide +kernel
theorem d_M_readExpression_96 : decode b_M_readExpression 96 = .ok (.ireturn, 1) := by decide +kernel
theorem d_M_readExpression_97 : decode b_M_readExpression 97 = .ok (.iload 7, 2) := by decide +kernel
theorem d_M_readExpression_99 : decode b_M_readExpression 99 = .ok (.ifCond .eq 29, 3) := by decide +kernel
theorem d_M_readExpression_102 : decode b_M_readExpression 102 = .ok (.iload_n 3, 1) := by decide +kernel
theorem d_M_readExpression_103 : decode b_M_readExpression 103 = .ok (.aload_n 0, 1) := by decide +kernel
theorem d_M_readExpression_104 : decode b_M_readExpression 104 = .ok (.getfield 65, 3) := by decide +kernel
theorem d_M_readExpression_107 : decode b_M_readExpression 107 = .ok (.iload_n 2, 1) := by decide +kernel
theorem d_M_readExpression_108 : decode b_M_readExpression 108 = .ok (.iaload, 1) := by decide +kernel
theorem d_M_readExpression_109 : decode b_M_readExpression 109 = .ok (.isub, 1) := by decide +kernel
theorem d_M_readExpression_110 : decode b_M_readExpression 110 = .ok (.istore_n 3, 1) := by decide +kernel
theorem d_M_readExpression_111 : decode b_M_readExpression 111 = .ok (.aload_n 0, 1) := by decide +kernel
theorem d_M_readExpression_112 : decode b_M_readExpression 112 = .ok (.iload 6, 2) := by decide +kernel
theorem d_M_readExpression_114 : decode b_M_readExpression 114 = .ok (.invokevirtual 110, 3) := by decide +kernel
theorem d_M_readExpression_117 : decode b_M_readExpression 117 = .ok (.aload_n 0, 1) := by decide +kernel
theorem d_M_readExpression_118 : decode b_M_readExpression 118 = .ok (.iload_n 2, 1) := by decide +kernel
theorem d_M_readExpression_119 : decode b_M_readExpression 119 = .ok (.invokevirtual 113, 3) := by decide +kernel
theorem d_M_readExpression_122 : decode b_M_readExpression 122 = .ok (.iconst 0, 1) := by decide +kernel
theorem d_M_readExpression_123 : decode b_M_readExpression 123 = .ok (.istore 4, 2) := by decide +kernel
theorem d_M_readExpression_125 : decode b_M_readExpression 125 = .ok (.goto 34, 3) := by decide +kernel
theorem d_M_readExpression_128 : decode b_M_readExpression 128 = .ok (.iinc 3 1, 3) := by decide +kernel
theorem d_M_readExpression_131 : decode b_M_readExpression 131 = .ok (.iload 6, 2) := by decide +kernel
theorem d_M_readExpression_133 : decode b_M_readExpression 133 = .ok (.bipush 45, 2) := by decide +kernel
theorem d_M_readExpression_135 : decode b_M_readExpression 135 = .ok (.if_icmp .ne 16, 3) := by decide +kernel
theorem d_M_readExpression_138 : decode b_M_readExpression 138 = .ok (.aload_n 0, 1) := by decide +kernel
theorem d_M_readExpression_139 : decode b_M_readExpression 139 = .ok (.getfield 65, 3) := by decide +kernel
theorem d_M_readExpression_142 : decode b_M_readExpression 142 = .ok (.iload_n 2, 1) := by decide +kernel
theorem d_M_readExpression_143 : decode b_M_readExpression 143 = .ok (.dup2, 1) := by decide +kernel
theorem d_M_readExpression_144 : decode b_M_readExpression 144 = .ok (.iaload, 1) := by decide +kernel
theorem d_M_readExpression_145 : decode b_M_readExpression 145 = .ok (.iconst 1, 1) := by decide +kernel
theorem d_M_readExpression_146 : decode b_M_readExpression 146 = .ok (.iadd, 1) := by decide +kernel
theorem d_M_readExpression_147 : decode b_M_readExpression 147 = .ok (.iastore, 1) := by decide +kernel
theorem d_M_readExpression_148 : decode b_M_readExpression 148 = .ok (.goto 11, 3) := by decide +kernel
theorem d_M_readExpression_151 : decode b_M_readExpression 151 = .ok (.iinc 2 1, 3) := by decide +kernel
theorem d_M_readExpression_154 : decode b_M_readExpression 154 = .ok (.aload_n 0, 1) := by decide +kernel
theorem d_M_readExpression_155 : decode b_M_readExpression 155 = .ok (.iload_n 2, 1) := by decide +kernel
theorem d_M_readExpression_156 : decode b_M_readExpression 156 = .ok (.invokevirtual 103, 3) := by decide +kernel
theorem d_M_readExpression_159 : decode b_M_readExpression 159 = .ok (.goto 172, 3) := by decide +kernel
theorem d_M_readExpression_162 : decode b_M_readExpression 162 = .ok (.iload 6, 2) := by decide +kernel
theorem d_M_readExpression_164 : decode b_M_readExpression 164 = .ok (.bipush 42, 2) := by decide +kernel
theorem d_M_readExpression_166 : decode b_M_readExpression 166 = .ok (.if_icmp .ne 9, 3) := by decide +kernel
theorem d_M_readExpression_169 : decode b_M_readExpression 169 = .ok (.iconst 1, 1) := by decide +kernel
theorem d_M_readExpression_170 : decode b_M_readExpression 170 = .ok (.istore 4, 2) := by decide +kernel
theorem d_M_readExpression_172 : decode b_M_readExpression 172 = .ok (.goto 159, 3) := by decide +kernel
theorem d_M_readExpression_175 : decode b_M_readExpression 175 = .ok (.iload 6, 2) := by decide +kernel
theorem d_M_readExpression_177 : decode b_M_readExpression 177 = .ok (.bipush 43, 2) := by decide +kernel
theorem d_M_readExpression_179 : decode b_M_readExpression 179 = .ok (.if_icmp .eq 10, 3) := by decide +kernel
theorem d_M_readExpression_182 : decode b_M_readExpression 182 = .ok (.iload 6, 2) := by decide +kernel
theorem d_M_readExpression_184 : decode b_M_readExpression 184 = .ok (.bipush 45, 2) := by decide +kernel
theorem d_M_readExpression_186 : decode b_M_readExpression 186 = .ok (.if_icmp .ne 32, 3) := by decide +kernel
theorem d_M_readExpression_189 : decode b_M_readExpression 189 = .ok (.aload_n 0, 1) := by decide +kernel
theorem d_M_readExpression_190 : decode b_M_readExpression 190 = .ok (.iload_n 2, 1) := by decide +kernel
theorem d_M_readExpression_191 : decode b_M_readExpression 191 = .ok (.invokevirtual 116, 3) := by decide +kernel
theorem d_M_readExpression_194 : decode b_M_readExpression 194 = .ok (.aload_n 0, 1) := by decide +kernel
theorem d_M_readExpression_195 : decode b_M_readExpression 195 = .ok (.getfield 62, 3) := by decide +kernel
theorem d_M_readExpression_198 : decode b_M_readExpression 198 = .ok (.iload_n 2, 1) := by decide +kernel
theorem d_M_readExpression_199 : decode b_M_readExpression 199 = .ok (.iload 6, 2) := by decide +kernel
theorem d_M_readExpression_201 : decode b_M_readExpression 201 = .ok (.bipush 43, 2) := by decide +kernel
theorem d_M_readExpression_203 : decode b_M_readExpression 203 = .ok (.if_icmp .ne 7, 3) := by decide +kernel
theorem d_M_readExpression_206 : decode b_M_readExpression 206 = .ok (.iconst 1, 1) := by decide +kernel
theorem d_M_readExpression_207 : decode b_M_readExpression 207 = .ok (.goto 4, 3) := by decide +kernel
theorem d_M_readExpression_210 : decode b_M_readExpression 210 = .ok (.iconst (-1), 1) := by decide +kernel
theorem d_M_readExpression_211 : decode b_M_readExpression 211 = .ok (.iastore, 1) := by decide +kernel
theorem d_M_readExpression_212 : decode b_M_readExpression 212 = .ok (.iconst 1, 1) := by decide +kernel
theorem d_M_readExpression_213 : decode b_M_readExpression 213 = .ok (.istore 4, 2) := by decide +kernel
theorem d_M_readExpression_215 : decode b_M_readExpression 215 = .ok (.goto 116, 3) := by decide +kernel
theorem d_M_readExpression_218 : decode b_M_readExpression 218 = .ok (.iload 6, 2) := by decide +kernel
theorem d_M_readExpression_220 : decode b_M_readExpression 220 = .ok (.bipush 41, 2) := by decide +kernel
theorem d_M_readExpression_222 : decode b_M_readExpression 222 = .ok (.if_icmp .ne 69, 3) := by decide +kernel
theorem d_M_readExpression_225 : decode b_M_readExpression 225 = .ok (.iload_n 2, 1) := by decide +kernel
theorem d_M_readExpression_226 : decode b_M_readExpression 226 = .ok (.ifCond .le 65, 3) := by decide +kernel
theorem d_M_readExpression_229 : decode b_M_readExpression 229 = .ok (.aload_n 0, 1) := by decide +kernel
theorem d_M_readExpression_230 : decode b_M_readExpression 230 = .ok (.iload_n 2, 1) := by decide +kernel
theorem d_M_readExpression_231 : decode b_M_readExpression 231 = .ok (.invokevirtual 116, 3) := by decide +kernel
theorem d_M_readExpression_234 : decode b_M_readExpression 234 = .ok (.iconst 0, 1) := by decide +kernel
theorem d_M_readExpression_235 : decode b_M_readExpression 235 = .ok (.istore 7, 2) := by decide +kernel
theorem d_M_readExpression_237 : decode b_M_readExpression 237 = .ok (.iload 7, 2) := by decide +kernel
theorem d_M_readExpression_239 : decode b_M_readExpression 239 = .ok (.bipush 81, 2) := by decide +kernel
theorem d_M_readExpression_241 : decode b_M_readExpression 241 = .ok (.if_icmp .ge 28, 3) := by decide +kernel
theorem d_M_readExpression_244 : decode b_M_readExpression 244 = .ok (.aload_n 0, 1) := by decide +kernel
theorem d_M_readExpression_245 : decode b_M_readExpression 245 = .ok (.getfield 68, 3) := by decide +kernel
theorem d_M_readExpression_248 : decode b_M_readExpression 248 = .ok (.iload 7, 2) := by decide +kernel
theorem d_M_readExpression_250 : decode b_M_readExpression 250 = .ok (.aload_n 0, 1) := by decide +kernel
theorem d_M_readExpression_251 : decode b_M_readExpression 251 = .ok (.getfield 53, 3) := by decide +kernel
theorem d_M_readExpression_254 : decode b_M_readExpression 254 = .ok (.bipush 81, 2) := by decide +kernel
theorem d_M_readExpression_256 : decode b_M_readExpression 256 = .ok (.iload_n 2, 1) := by decide +kernel
theorem d_M_readExpression_257 : decode b_M_readExpression 257 = .ok (.imul, 1) := by decide +kernel
theorem d_M_readExpression_258 : decode b_M_readExpression 258 = .ok (.iload 7, 2) := by decide +kernel
theorem d_M_readExpression_260 : decode b_M_readExpression 260 = .ok (.iadd, 1) := by decide +kernel
theorem d_M_readExpression_261 : decode b_M_readExpression 261 = .ok (.iaload, 1) := by decide +kernel
theorem d_M_readExpression_262 : decode b_M_readExpression 262 = .ok (.iastore, 1) := by decide +kernel
theorem d_M_readExpression_263 : decode b_M_readExpression 263 = .ok (.iinc 7 1, 3) := by decide +kernel
theorem d_M_readExpression_266 : decode b_M_readExpression 266 = .ok (.goto (-29), 3) := by decide +kernel
theorem d_M_readExpression_269 : decode b_M_readExpression 269 = .ok (.iinc 2 (-1), 3) := by decide +kernel
theorem d_M_readExpression_272 : decode b_M_readExpression 272 = .ok (.iload_n 3, 1) := by decide +kernel
theorem d_M_readExpression_273 : decode b_M_readExpression 273 = .ok (.iconst 1, 1) := by decide +kernel
theorem d_M_readExpression_274 : decode b_M_readExpression 274 = .ok (.aload_n 0, 1) := by decide +kernel
theorem d_M_readExpression_275 : decode b_M_readExpression 275 = .ok (.getfield 65, 3) := by decide +kernel
theorem d_M_readExpression_278 : decode b_M_readExpression 278 = .ok (.iload_n 2, 1) := by decide +kernel
theorem d_M_readExpression_279 : decode b_M_readExpression 279 = .ok (.iaload, 1) := by decide +kernel
theorem d_M_readExpression_280 : decode b_M_readExpression 280 = .ok (.iadd, 1) := by decide +kernel
theorem d_M_readExpression_281 : decode b_M_readExpression 281 = .ok (.isub, 1) := by decide +kernel
theorem d_M_readExpression_282 : decode b_M_readExpression 282 = .ok (.istore_n 3, 1) := by decide +kernel
theorem d_M_readExpression_283 : decode b_M_readExpression 283 = .ok (.aload_n 0, 1) := by decide +kernel
theorem d_M_readExpression_284 : decode b_M_readExpression 284 = .ok (.iload_n 2, 1) := by decide +kernel
theorem d_M_readExpression_285 : decode b_M_readExpression 285 = .ok (.invokevirtual 113, 3) := by decide +kernel
theorem d_M_readExpression_288 : decode b_M_readExpression 288 = .ok (.goto 43, 3) := by decide +kernel
theorem d_M_readExpression_291 : decode b_M_readExpression 291 = .ok (.iload_n 2, 1) := by decide +kernel
theorem d_M_readExpression_292 : decode b_M_readExpression 292 = .ok (.ifCond .ne 34, 3) := by decide +kernel
theorem d_M_readExpression_295 : decode b_M_readExpression 295 = .ok (.iload 6, 2) := by decide +kernel
theorem d_M_readExpression_297 : decode b_M_readExpression 297 = .ok (.bipush 63, 2) := by decide +kernel
theorem d_M_readExpression_299 : decode b_M_readExpression 299 = .ok (.if_icmp .eq 19, 3) := by decide +kernel
theorem d_M_readExpression_302 : decode b_M_readExpression 302 = .ok (.iload 6, 2) := by decide +kernel
theorem d_M_readExpression_304 : decode b_M_readExpression 304 = .ok (.bipush 47, 2) := by decide +kernel
theorem d_M_readExpression_306 : decode b_M_readExpression 306 = .ok (.if_icmp .eq 12, 3) := by decide +kernel
theorem d_M_readExpression_309 : decode b_M_readExpression 309 = .ok (.iload 5, 2) := by decide +kernel
theorem d_M_readExpression_311 : decode b_M_readExpression 311 = .ok (.aload_n 0, 1) := by decide +kernel
theorem d_M_readExpression_312 : decode b_M_readExpression 312 = .ok (.getfield 82, 3) := by decide +kernel
theorem d_M_readExpression_315 : decode b_M_readExpression 315 = .ok (.if_icmp .ne 11, 3) := by decide +kernel
theorem d_M_readExpression_318 : decode b_M_readExpression 318 = .ok (.aload_n 0, 1) := by decide +kernel
theorem d_M_readExpression_319 : decode b_M_readExpression 319 = .ok (.iconst 0, 1) := by decide +kernel
theorem d_M_readExpression_320 : decode b_M_readExpression 320 = .ok (.invokevirtual 116, 3) := by decide +kernel
theorem d_M_readExpression_323 : decode b_M_readExpression 323 = .ok (.iload 5, 2) := by decide +kernel
theorem d_M_readExpression_325 : decode b_M_readExpression 325 = .ok (.ireturn, 1) := by decide +kernel
theorem d_M_readExpression_326 : decode b_M_readExpression 326 = .ok (.iconst (-1), 1) := by decide +kernel
theorem d_M_readExpression_327 : decode b_M_readExpression 327 = .ok (.iload 5, 2) := by decide +kernel
theorem d_M_readExpression_329 : decode b_M_readExpression 329 = .ok (.isub, 1) := by decide +kernel
theorem d_M_readExpression_330 : decode b_M_readExpression 330 = .ok (.ireturn, 1) := by decide +kernel
theorem d_M_readExpression_331 : decode b_M_readExpression 331 = .ok (.iinc 5 1, 3) := by decide +kernel
theorem d_M_readExpression_334 : decode b_M_readExpression 334 = .ok (.goto (-319), 3) := by decide +kernel
theorem d_M_readExpression_337 : decode b_M_readExpression 337 = .ok (.iconst (-1), 1) := by decide +kernel
theorem d_M_readExpression_338 : decode b_M_readExpression 338 = .ok (.aload_n 0, 1) := by decide +kernel
theorem d_M_readExpression_339 : decode b_M_readExpression 339 = .ok (.getfield 82, 3) := by decide +kernel
theorem d_M_readExpression_342 : decode b_M_readExpression 342 = .ok (.isub, 1) := by decide +kernel
theorem d_M_readExpression_343 : decode b_M_readExpression 343 = .ok (.ireturn, 1) := by decide +kernel
theorem d_M_readConditions_0 : decode b_M_readConditions 0 = .ok (.iload_n 1, 1) := by decide +kernel
theorem d_M_readConditions_1 : decode b_M_readConditions 1 = .ok (.istore_n 2, 1) := by decide +kernel
theorem d_M_readConditions_2 : decode b_M_readConditions 2 = .ok (.aload_n 0, 1) := by decide +kernel
theorem d_M_readConditions_3 : decode b_M_readConditions 3 = .ok (.iconst 0, 1) := by decide +kernel
theorem d_M_readConditions_4 : decode b_M_readConditions 4 = .ok (.putfield 119, 3) := by decide +kernel
theorem d_M_readConditions_7 : decode b_M_readConditions 7 = .ok (.aload_n 0, 1) := by decide +kernel
theorem d_M_readConditions_8 : decode b_M_readConditions 8 = .ok (.iload_n 2, 1) := by decide +kernel
theorem d_M_readConditions_9 : decode b_M_readConditions 9 = .ok (.invokevirtual 100, 3) := by decide +kernel
theorem d_M_readConditions_12 : decode b_M_readConditions 12 = .ok (.bipush 63, 2) := by decide +kernel
theorem d_M_readConditions_14 : decode b_M_readConditions 14 = .ok (.if_icmp .ne 167, 3) := by decide +kernel
theorem d_M_readConditions_17 : decode b_M_readConditions 17 = .ok (.aload_n 0, 1) := by decide +kernel
theorem d_M_readConditions_18 : decode b_M_readConditions 18 = .ok (.aload_n 0, 1) := by decide +kernel
theorem d_M_readConditions_19 : decode b_M_readConditions 19 = .ok (.iload_n 2, 1) := by decide +kernel
theorem d_M_readConditions_20 : decode b_M_readConditions 20 = .ok (.iconst 1, 1) := by decide +kernel
theorem d_M_readConditions_21 : decode b_M_readConditions 21 = .ok (.iadd, 1) := by decide +kernel
theorem d_M_readConditions_22 : decode b_M_readConditions 22 = .ok (.invokevirtual 100, 3) := by decide +kernel
theorem d_M_readConditions_25 : decode b_M_readConditions 25 = .ok (.invokevirtual 106, 3) := by decide +kernel
theorem d_M_readConditions_28 : decode b_M_readConditions 28 = .ok (.ifCond .ne 13, 3) := by decide +kernel
theorem d_M_readConditions_31 : decode b_M_readConditions 31 = .ok (.iconst (-1), 1) := by decide +kernel
theorem d_M_readConditions_32 : decode b_M_readConditions 32 = .ok (.aload_n 0, 1) := by decide +kernel
theorem d_M_readConditions_33 : decode b_M_readConditions 33 = .ok (.iload_n 2, 1) := by decide +kernel
theorem d_M_readConditions_34 : decode b_M_readConditions 34 = .ok (.iconst 1, 1) := by decide +kernel
theorem d_M_readConditions_35 : decode b_M_readConditions 35 = .ok (.iadd, 1) := by decide +kernel
theorem d_M_readConditions_36 : decode b_M_readConditions 36 = .ok (.invokevirtual 122, 3) := by decide +kernel
theorem d_M_readConditions_39 : decode b_M_readConditions 39 = .ok (.isub, 1) := by decide +kernel
theorem d_M_readConditions_40 : decode b_M_readConditions 40 = .ok (.ireturn, 1) := by decide +kernel
theorem d_M_readConditions_41 : decode b_M_readConditions 41 = .ok (.aload_n 0, 1) := by decide +kernel
theorem d_M_readConditions_42 : decode b_M_readConditions 42 = .ok (.iload_n 2, 1) := by decide +kernel
theorem d_M_readConditions_43 : decode b_M_readConditions 43 = .ok (.iconst 2, 1) := by decide +kernel
theorem d_M_readConditions_44 : decode b_M_readConditions 44 = .ok (.iadd, 1) := by decide +kernel
theorem d_M_readConditions_45 : decode b_M_readConditions 45 = .ok (.invokevirtual 100, 3) := by decide +kernel
theorem d_M_readConditions_48 : decode b_M_readConditions 48 = .ok (.istore_n 3, 1) := by decide +kernel
theorem d_M_readConditions_49 : decode b_M_readConditions 49 = .ok (.iload_n 3, 1) := by decide +kernel
theorem d_M_readConditions_50 : decode b_M_readConditions 50 = .ok (.bipush 61, 2) := by decide +kernel
theorem d_M_readConditions_52 : decode b_M_readConditions 52 = .ok (.if_icmp .eq 31, 3) := by decide +kernel
theorem d_M_readConditions_55 : decode b_M_readConditions 55 = .ok (.iload_n 3, 1) := by decide +kernel
theorem d_M_readConditions_56 : decode b_M_readConditions 56 = .ok (.bipush 35, 2) := by decide +kernel
theorem d_M_readConditions_58 : decode b_M_readConditions 58 = .ok (.if_icmp .eq 25, 3) := by decide +kernel
theorem d_M_readConditions_61 : decode b_M_readConditions 61 = .ok (.iload_n 3, 1) := by decide +kernel
theorem d_M_readConditions_62 : decode b_M_readConditions 62 = .ok (.bipush 60, 2) := by decide +kernel
theorem d_M_readConditions_64 : decode b_M_readConditions 64 = .ok (.if_icmp .eq 19, 3) := by decide +kernel
theorem d_M_readConditions_67 : decode b_M_readConditions 67 = .ok (.iload_n 3, 1) := by decide +kernel
theorem d_M_readConditions_68 : decode b_M_readConditions 68 = .ok (.bipush 62, 2) := by decide +kernel
theorem d_M_readConditions_70 : decode b_M_readConditions 70 = .ok (.if_icmp .eq 13, 3) := by decide +kernel
theorem d_M_readConditions_73 : decode b_M_readConditions 73 = .ok (.iconst (-1), 1) := by decide +kernel
theorem d_M_readConditions_74 : decode b_M_readConditions 74 = .ok (.aload_n 0, 1) := by decide +kernel
theorem d_M_readConditions_75 : decode b_M_readConditions 75 = .ok (.iload_n 2, 1) := by decide +kernel
theorem d_M_readConditions_76 : decode b_M_readConditions 76 = .ok (.iconst 2, 1) := by decide +kernel
theorem d_M_readConditions_77 : decode b_M_readConditions 77 = .ok (.iadd, 1) := by decide +kernel
theorem d_M_readConditions_78 : decode b_M_readConditions 78 = .ok (.invokevirtual 122, 3) := by decide +kernel
theorem d_M_readConditions_81 : decode b_M_readConditions 81 = .ok (.isub, 1) := by decide +kernel
theorem d_M_readConditions_82 : decode b_M_readConditions 82 = .ok (.ireturn, 1) := by decide +kernel
theorem d_M_readConditions_83 : decode b_M_readConditions 83 = .ok (.aload_n 0, 1) := by decide +kernel
theorem d_M_readConditions_84 : decode b_M_readConditions 84 = .ok (.iload_n 2, 1) := by decide +kernel
theorem d_M_readConditions_85 : decode b_M_readConditions 85 = .ok (.iconst 3, 1) := by decide +kernel
theorem d_M_readConditions_86 : decode b_M_readConditions 86 = .ok (.iadd, 1) := by decide +kernel
theorem d_M_readConditions_87 : decode b_M_readConditions 87 = .ok (.invokevirtual 100, 3) := by decide +kernel
theorem d_M_readConditions_90 : decode b_M_readConditions 90 = .ok (.bipush 48, 2) := by decide +kernel
theorem d_M_readConditions_92 : decode b_M_readConditions 92 = .ok (.if_icmp .lt 15, 3) := by decide +kernel
theorem d_M_readConditions_95 : decode b_M_readConditions 95 = .ok (.aload_n 0, 1) := by decide +kernel
theorem d_M_readConditions_96 : decode b_M_readConditions 96 = .ok (.iload_n 2, 1) := by decide +kernel
theorem d_M_readConditions_97 : decode b_M_readConditions 97 = .ok (.iconst 3, 1) := by decide +kernel
theorem d_M_readConditions_98 : decode b_M_readConditions 98 = .ok (.iadd, 1) := by decide +kernel
theorem d_M_readConditions_99 : decode b_M_readConditions 99 = .ok (.invokevirtual 100, 3) := by decide +kernel
theorem d_M_readConditions_102 : decode b_M_readConditions 102 = .ok (.bipush 57, 2) := by decide +kernel
theorem d_M_readConditions_104 : decode b_M_readConditions 104 = .ok (.if_icmp .le 13, 3) := by decide +kernel
theorem d_M_readConditions_107 : decode b_M_readConditions 107 = .ok (.iconst (-1), 1) := by decide +kernel
theorem d_M_readConditions_108 : decode b_M_readConditions 108 = .ok (.aload_n 0, 1) := by decide +kernel
theorem d_M_readConditions_109 : decode b_M_readConditions 109 = .ok (.iload_n 2, 1) := by decide +kernel
theorem d_M_readConditions_110 : decode b_M_readConditions 110 = .ok (.iconst 3, 1) := by decide +kernel
theorem d_M_readConditions_111 : decode b_M_readConditions 111 = .ok (.iadd, 1) := by decide +kernel
theorem d_M_readConditions_112 : decode b_M_readConditions 112 = .ok (.invokevirtual 122, 3) := by decide +kernel
theorem d_M_readConditions_115 : decode b_M_readConditions 115 = .ok (.isub, 1) := by decide +kernel
theorem d_M_readConditions_116 : decode b_M_readConditions 116 = .ok (.ireturn, 1) := by decide +kernel
theorem d_M_readConditions_117 : decode b_M_readConditions 117 = .ok (.aload_n 0, 1) := by decide +kernel
theorem d_M_readConditions_118 : decode b_M_readConditions 118 = .ok (.getfield 22, 3) := by decide +kernel
theorem d_M_readConditions_121 : decode b_M_readConditions 121 = .ok (.aload_n 0, 1) := by decide +kernel
theorem d_M_readConditions_122 : decode b_M_readConditions 122 = .ok (.getfield 119, 3) := by decide +kernel
theorem d_M_readConditions_125 : decode b_M_readConditions 125 = .ok (.aload_n 0, 1) := by decide +kernel
theorem d_M_readConditions_126 : decode b_M_readConditions 126 = .ok (.iload_n 2, 1) := by decide +kernel
theorem d_M_readConditions_127 : decode b_M_readConditions 127 = .ok (.iconst 1, 1) := by decide +kernel
theorem d_M_readConditions_128 : decode b_M_readConditions 128 = .ok (.iadd, 1) := by decide +kernel
theorem d_M_readConditions_129 : decode b_M_readConditions 129 = .ok (.invokevirtual 100, 3) := by decide +kernel
theorem d_M_readConditions_132 : decode b_M_readConditions 132 = .ok (.invokestatic 74, 3) := by decide +kernel
theorem d_M_readConditions_135 : decode b_M_readConditions 135 = .ok (.iastore, 1) := by decide +kernel
theorem d_M_readConditions_136 : decode b_M_readConditions 136 = .ok (.aload_n 0, 1) := by decide +kernel
theorem d_M_readConditions_137 : decode b_M_readConditions 137 = .ok (.getfield 25, 3) := by decide +kernel
theorem d_M_readConditions_140 : decode b_M_readConditions 140 = .ok (.aload_n 0, 1) := by decide +kernel
theorem d_M_readConditions_141 : decode b_M_readConditions 141 = .ok (.getfield 119, 3) := by decide +kernel
theorem d_M_readConditions_144 : decode b_M_readConditions 144 = .ok (.iload_n 3, 1) := by decide +kernel
theorem d_M_readConditions_145 : decode b_M_readConditions 145 = .ok (.iastore, 1) := by decide +kernel
theorem d_M_readConditions_146 : decode b_M_readConditions 146 = .ok (.aload_n 0, 1) := by decide +kernel
theorem d_M_readConditions_147 : decode b_M_readConditions 147 = .ok (.getfield 28, 3) := by decide +kernel
theorem d_M_readConditions_150 : decode b_M_readConditions 150 = .ok (.aload_n 0, 1) := by decide +kernel
theorem d_M_readConditions_151 : decode b_M_readConditions 151 = .ok (.getfield 119, 3) := by decide +kernel
theorem d_M_readConditions_154 : decode b_M_readConditions 154 = .ok (.aload_n 0, 1) := by decide +kernel
theorem d_M_readConditions_155 : decode b_M_readConditions 155 = .ok (.iload_n 2, 1) := by decide +kernel
theorem d_M_readConditions_156 : decode b_M_readConditions 156 = .ok (.iconst 3, 1) := by decide +kernel
theorem d_M_readConditions_157 : decode b_M_readConditions 157 = .ok (.iadd, 1) := by decide +kernel
theorem d_M_readConditions_158 : decode b_M_readConditions 158 = .ok (.invokevirtual 100, 3) := by decide +kernel
theorem d_M_readConditions_161 : decode b_M_readConditions 161 = .ok (.bipush 48, 2) := by decide +kernel
theorem d_M_readConditions_163 : decode b_M_readConditions 163 = .ok (.isub, 1) := by decide +kernel
theorem d_M_readConditions_164 : decode b_M_readConditions 164 = .ok (.iastore, 1) := by decide +kernel
theorem d_M_readConditions_165 : decode b_M_readConditions 165 = .ok (.aload_n 0, 1) := by decide +kernel
theorem d_M_readConditions_166 : decode b_M_readConditions 166 = .ok (.dup, 1) := by decide +kernel
theorem d_M_readConditions_167 : decode b_M_readConditions 167 = .ok (.getfield 119, 3) := by decide +kernel
theorem d_M_readConditions_170 : decode b_M_readConditions 170 = .ok (.iconst 1, 1) := by decide +kernel
theorem d_M_readConditions_171 : decode b_M_readConditions 171 = .ok (.iadd, 1) := by decide +kernel
theorem d_M_readConditions_172 : decode b_M_readConditions 172 = .ok (.putfield 119, 3) := by decide +kernel
theorem d_M_readConditions_175 : decode b_M_readConditions 175 = .ok (.iinc 2 4, 3) := by decide +kernel
theorem d_M_readConditions_178 : decode b_M_readConditions 178 = .ok (.goto (-171), 3) := by decide +kernel
theorem d_M_readConditions_181 : decode b_M_readConditions 181 = .ok (.iload_n 2, 1) := by decide +kernel
theorem d_M_readConditions_182 : decode b_M_readConditions 182 = .ok (.ireturn, 1) := by decide +kernel
theorem d_M_shorter_0 : decode b_M_shorter 0 = .ok (.iload_n 1, 1) := by decide +kernel
theorem d_M_shorter_1 : decode b_M_shorter 1 = .ok (.aload_n 0, 1) := by decide +kernel
theorem d_M_shorter_2 : decode b_M_shorter 2 = .ok (.getfield 82, 3) := by decide +kernel
theorem d_M_shorter_5 : decode b_M_shorter 5 = .ok (.if_icmp .ge 7, 3) := by decide +kernel
theorem d_M_shorter_8 : decode b_M_shorter 8 = .ok (.iload_n 1, 1) := by decide +kernel
theorem d_M_shorter_9 : decode b_M_shorter 9 = .ok (.goto 7, 3) := by decide +kernel
theorem d_M_shorter_12 : decode b_M_shorter 12 = .ok (.aload_n 0, 1) := by decide +kernel
theorem d_M_shorter_13 : decode b_M_shorter 13 = .ok (.getfield 82, 3) := by decide +kernel
theorem d_M_shorter_16 : decode b_M_shorter 16 = .ok (.ireturn, 1) := by decide +kernel
theorem d_M_read_0 : decode b_M_read 0 = .ok (.aload_n 0, 1) := by decide +kernel
theorem d_M_read_1 : decode b_M_read 1 = .ok (.iconst 0, 1) := by decide +kernel
theorem d_M_read_2 : decode b_M_read 2 = .ok (.putfield 85, 3) := by decide +kernel
theorem d_M_read_5 : decode b_M_read 5 = .ok (.aload_n 0, 1) := by decide +kernel
theorem d_M_read_6 : decode b_M_read 6 = .ok (.bipush (-2), 2) := by decide +kernel
theorem d_M_read_8 : decode b_M_read 8 = .ok (.putfield 125, 3) := by decide +kernel
theorem d_M_read_11 : decode b_M_read 11 = .ok (.aload_n 0, 1) := by decide +kernel
theorem d_M_read_12 : decode b_M_read 12 = .ok (.invokevirtual 128, 3) := by decide +kernel
theorem d_M_read_15 : decode b_M_read 15 = .ok (.istore_n 1, 1) := by decide +kernel
theorem d_M_read_16 : decode b_M_read 16 = .ok (.iload_n 1, 1) := by decide +kernel
theorem d_M_read_17 : decode b_M_read 17 = .ok (.ifCond .lt 9, 3) := by decide +kernel
theorem d_M_read_20 : decode b_M_read 20 = .ok (.aload_n 0, 1) := by decide +kernel
theorem d_M_read_21 : decode b_M_read 21 = .ok (.iload_n 1, 1) := by decide +kernel
theorem d_M_read_22 : decode b_M_read 22 = .ok (.invokevirtual 132, 3) := by decide +kernel
theorem d_M_read_25 : decode b_M_read 25 = .ok (.istore_n 1, 1) := by decide +kernel
theorem d_M_read_26 : decode b_M_read 26 = .ok (.iload_n 1, 1) := by decide +kernel
theorem d_M_read_27 : decode b_M_read 27 = .ok (.ifCond .lt 9, 3) := by decide +kernel
theorem d_M_read_30 : decode b_M_read 30 = .ok (.aload_n 0, 1) := by decide +kernel
theorem d_M_read_31 : decode b_M_read 31 = .ok (.iload_n 1, 1) := by decide +kernel
theorem d_M_read_32 : decode b_M_read 32 = .ok (.invokevirtual 135, 3) := by decide +kernel
theorem d_M_read_35 : decode b_M_read 35 = .ok (.istore_n 1, 1) := by decide +kernel
theorem d_M_read_36 : decode b_M_read 36 = .ok (.iload_n 1, 1) := by decide +kernel
theorem d_M_read_37 : decode b_M_read 37 = .ok (.ifCond .ge 7, 3) := by decide +kernel
theorem d_M_read_40 : decode b_M_read 40 = .ok (.iconst (-1), 1) := by decide +kernel
theorem d_M_read_41 : decode b_M_read 41 = .ok (.iload_n 1, 1) := by decide +kernel
theorem d_M_read_42 : decode b_M_read 42 = .ok (.isub, 1) := by decide +kernel
theorem d_M_read_43 : decode b_M_read 43 = .ok (.ireturn, 1) := by decide +kernel
theorem d_M_read_44 : decode b_M_read 44 = .ok (.aload_n 0, 1) := by decide +kernel
theorem d_M_read_45 : decode b_M_read 45 = .ok (.iload_n 1, 1) := by decide +kernel
theorem d_M_read_46 : decode b_M_read 46 = .ok (.invokevirtual 100, 3) := by decide +kernel
theorem d_M_read_49 : decode b_M_read 49 = .ok (.bipush 47, 2) := by decide +kernel
theorem d_M_read_51 : decode b_M_read 51 = .ok (.if_icmp .ne 42, 3) := by decide +kernel
theorem d_M_read_54 : decode b_M_read 54 = .ok (.aload_n 0, 1) := by decide +kernel
theorem d_M_read_55 : decode b_M_read 55 = .ok (.aload_n 0, 1) := by decide +kernel
theorem d_M_read_56 : decode b_M_read 56 = .ok (.iload_n 1, 1) := by decide +kernel
theorem d_M_read_57 : decode b_M_read 57 = .ok (.iconst 1, 1) := by decide +kernel
theorem d_M_read_58 : decode b_M_read 58 = .ok (.iadd, 1) := by decide +kernel
theorem d_M_read_59 : decode b_M_read 59 = .ok (.invokevirtual 100, 3) := by decide +kernel
theorem d_M_read_62 : decode b_M_read 62 = .ok (.invokevirtual 106, 3) := by decide +kernel
theorem d_M_read_65 : decode b_M_read 65 = .ok (.ifCond .ne 11, 3) := by decide +kernel
theorem d_M_read_68 : decode b_M_read 68 = .ok (.aload_n 0, 1) := by decide +kernel
theorem d_M_read_69 : decode b_M_read 69 = .ok (.iload_n 1, 1) := by decide +kernel
theorem d_M_read_70 : decode b_M_read 70 = .ok (.iconst 1, 1) := by decide +kernel
theorem d_M_read_71 : decode b_M_read 71 = .ok (.iadd, 1) := by decide +kernel
theorem d_M_read_72 : decode b_M_read 72 = .ok (.invokevirtual 122, 3) := by decide +kernel
theorem d_M_read_75 : decode b_M_read 75 = .ok (.ireturn, 1) := by decide +kernel
theorem d_M_read_76 : decode b_M_read 76 = .ok (.aload_n 0, 1) := by decide +kernel
theorem d_M_read_77 : decode b_M_read 77 = .ok (.aload_n 0, 1) := by decide +kernel
theorem d_M_read_78 : decode b_M_read 78 = .ok (.iload_n 1, 1) := by decide +kernel
theorem d_M_read_79 : decode b_M_read 79 = .ok (.iconst 1, 1) := by decide +kernel
theorem d_M_read_80 : decode b_M_read 80 = .ok (.iadd, 1) := by decide +kernel
theorem d_M_read_81 : decode b_M_read 81 = .ok (.invokevirtual 100, 3) := by decide +kernel
theorem d_M_read_84 : decode b_M_read 84 = .ok (.invokestatic 74, 3) := by decide +kernel
theorem d_M_read_87 : decode b_M_read 87 = .ok (.putfield 125, 3) := by decide +kernel
theorem d_M_read_90 : decode b_M_read 90 = .ok (.iinc 1 2, 3) := by decide +kernel
theorem d_M_read_93 : decode b_M_read 93 = .ok (.iload_n 1, 1) := by decide +kernel
theorem d_M_read_94 : decode b_M_read 94 = .ok (.aload_n 0, 1) := by decide +kernel
theorem d_M_read_95 : decode b_M_read 95 = .ok (.getfield 82, 3) := by decide +kernel
theorem d_M_read_98 : decode b_M_read 98 = .ok (.if_icmp .ge 7, 3) := by decide +kernel
theorem d_M_read_101 : decode b_M_read 101 = .ok (.iload_n 1, 1) := by decide +kernel
theorem d_M_read_102 : decode b_M_read 102 = .ok (.goto 5, 3) := by decide +kernel
theorem d_M_read_105 : decode b_M_read 105 = .ok (.bipush (-2), 2) := by decide +kernel
theorem d_M_read_107 : decode b_M_read 107 = .ok (.ireturn, 1) := by decide +kernel
theorem d_M_cell_0 : decode b_M_cell 0 = .ok (.iload_n 0, 1) := by decide +kernel
theorem d_M_cell_1 : decode b_M_cell 1 = .ok (.iconst 3, 1) := by decide +kernel
theorem d_M_cell_2 : decode b_M_cell 2 = .ok (.invokestatic 138, 3) := by decide +kernel
theorem d_M_cell_5 : decode b_M_cell 5 = .ok (.ifCond .eq 35, 3) := by decide +kernel
theorem d_M_cell_8 : decode b_M_cell 8 = .ok (.iload_n 1, 1) := by decide +kernel
theorem d_M_cell_9 : decode b_M_cell 9 = .ok (.bipush 6, 2) := by decide +kernel
theorem d_M_cell_11 : decode b_M_cell 11 = .ok (.invokestatic 138, 3) := by decide +kernel
theorem d_M_cell_14 : decode b_M_cell 14 = .ok (.ifCond .eq 26, 3) := by decide +kernel
theorem d_M_cell_17 : decode b_M_cell 17 = .ok (.iload_n 2, 1) := by decide +kernel
theorem d_M_cell_18 : decode b_M_cell 18 = .ok (.bipush 6, 2) := by decide +kernel
theorem d_M_cell_20 : decode b_M_cell 20 = .ok (.invokestatic 138, 3) := by decide +kernel
theorem d_M_cell_23 : decode b_M_cell 23 = .ok (.ifCond .eq 17, 3) := by decide +kernel
theorem d_M_cell_26 : decode b_M_cell 26 = .ok (.bipush 36, 2) := by decide +kernel
theorem d_M_cell_28 : decode b_M_cell 28 = .ok (.iload_n 0, 1) := by decide +kernel
theorem d_M_cell_29 : decode b_M_cell 29 = .ok (.imul, 1) := by decide +kernel
theorem d_M_cell_30 : decode b_M_cell 30 = .ok (.bipush 6, 2) := by decide +kernel
theorem d_M_cell_32 : decode b_M_cell 32 = .ok (.iload_n 1, 1) := by decide +kernel
theorem d_M_cell_33 : decode b_M_cell 33 = .ok (.imul, 1) := by decide +kernel
theorem d_M_cell_34 : decode b_M_cell 34 = .ok (.iadd, 1) := by decide +kernel
theorem d_M_cell_35 : decode b_M_cell 35 = .ok (.iload_n 2, 1) := by decide +kernel
theorem d_M_cell_36 : decode b_M_cell 36 = .ok (.iadd, 1) := by decide +kernel
theorem d_M_cell_37 : decode b_M_cell 37 = .ok (.goto 4, 3) := by decide +kernel
theorem d_M_cell_40 : decode b_M_cell 40 = .ok (.iconst (-1), 1) := by decide +kernel
theorem d_M_cell_41 : decode b_M_cell 41 = .ok (.ireturn, 1) := by decide +kernel
theorem d_M_change_0 : decode b_M_change 0 = .ok (.iload_n 1, 1) := by decide +kernel
theorem d_M_change_1 : decode b_M_change 1 = .ok (.iload_n 2, 1) := by decide +kernel
theorem d_M_change_2 : decode b_M_change 2 = .ok (.iload_n 3, 1) := by decide +kernel
theorem d_M_change_3 : decode b_M_change 3 = .ok (.invokestatic 142, 3) := by decide +kernel
theorem d_M_change_6 : decode b_M_change 6 = .ok (.istore 5, 2) := by decide +kernel
theorem d_M_change_8 : decode b_M_change 8 = .ok (.iload 5, 2) := by decide +kernel
theorem d_M_change_10 : decode b_M_change 10 = .ok (.ifCond .ge 5, 3) := by decide +kernel
theorem d_M_change_13 : decode b_M_change 13 = .ok (.iconst (-1), 1) := by decide +kernel
theorem d_M_change_14 : decode b_M_change 14 = .ok (.ireturn, 1) := by decide +kernel
theorem d_M_change_15 : decode b_M_change 15 = .ok (.aload_n 0, 1) := by decide +kernel
theorem d_M_change_16 : decode b_M_change 16 = .ok (.getfield 7, 3) := by decide +kernel
theorem d_M_change_19 : decode b_M_change 19 = .ok (.iload 5, 2) := by decide +kernel
theorem d_M_change_21 : decode b_M_change 21 = .ok (.iaload, 1) := by decide +kernel
theorem d_M_change_22 : decode b_M_change 22 = .ok (.i2l, 1) := by decide +kernel
theorem d_M_change_23 : decode b_M_change 23 = .ok (.iload 4, 2) := by decide +kernel
theorem d_M_change_25 : decode b_M_change 25 = .ok (.i2l, 1) := by decide +kernel
theorem d_M_change_26 : decode b_M_change 26 = .ok (.ladd, 1) := by decide +kernel
theorem d_M_change_27 : decode b_M_change 27 = .ok (.lstore 6, 2) := by decide +kernel
theorem d_M_change_29 : decode b_M_change 29 = .ok (.lload 6, 2) := by decide +kernel
theorem d_M_change_31 : decode b_M_change 31 = .ok (.ldc2_w 146, 3) := by decide +kernel
theorem d_M_change_34 : decode b_M_change 34 = .ok (.lcmp, 1) := by decide +kernel
theorem d_M_change_35 : decode b_M_change 35 = .ok (.ifCond .gt 12, 3) := by decide +kernel
theorem d_M_change_38 : decode b_M_change 38 = .ok (.lload 6, 2) := by decide +kernel
theorem d_M_change_40 : decode b_M_change 40 = .ok (.ldc2_w 148, 3) := by decide +kernel
theorem d_M_change_43 : decode b_M_change 43 = .ok (.lcmp, 1) := by decide +kernel
theorem d_M_change_44 : decode b_M_change 44 = .ok (.ifCond .ge 5, 3) := by decide +kernel
theorem d_M_change_47 : decode b_M_change 47 = .ok (.iconst (-1), 1) := by decide +kernel
theorem d_M_change_48 : decode b_M_change 48 = .ok (.ireturn, 1) := by decide +kernel
theorem d_M_change_49 : decode b_M_change 49 = .ok (.aload_n 0, 1) := by decide +kernel
theorem d_M_change_50 : decode b_M_change 50 = .ok (.getfield 7, 3) := by decide +kernel
theorem d_M_change_53 : decode b_M_change 53 = .ok (.iload 5, 2) := by decide +kernel
theorem d_M_change_55 : decode b_M_change 55 = .ok (.dup2, 1) := by decide +kernel
theorem d_M_change_56 : decode b_M_change 56 = .ok (.iaload, 1) := by decide +kernel
theorem d_M_change_57 : decode b_M_change 57 = .ok (.iload 4, 2) := by decide +kernel
theorem d_M_change_59 : decode b_M_change 59 = .ok (.iadd, 1) := by decide +kernel
theorem d_M_change_60 : decode b_M_change 60 = .ok (.iastore, 1) := by decide +kernel
theorem d_M_change_61 : decode b_M_change 61 = .ok (.aload_n 0, 1) := by decide +kernel
theorem d_M_change_62 : decode b_M_change 62 = .ok (.getfield 13, 3) := by decide +kernel
theorem d_M_change_65 : decode b_M_change 65 = .ok (.aload_n 0, 1) := by decide +kernel
theorem d_M_change_66 : decode b_M_change 66 = .ok (.getfield 150, 3) := by decide +kernel
theorem d_M_change_69 : decode b_M_change 69 = .ok (.iload 5, 2) := by decide +kernel
theorem d_M_change_71 : decode b_M_change 71 = .ok (.iastore, 1) := by decide +kernel
theorem d_M_change_72 : decode b_M_change 72 = .ok (.aload_n 0, 1) := by decide +kernel
theorem d_M_change_73 : decode b_M_change 73 = .ok (.getfield 16, 3) := by decide +kernel
theorem d_M_change_76 : decode b_M_change 76 = .ok (.aload_n 0, 1) := by decide +kernel
theorem d_M_change_77 : decode b_M_change 77 = .ok (.getfield 150, 3) := by decide +kernel
theorem d_M_change_80 : decode b_M_change 80 = .ok (.iload 4, 2) := by decide +kernel
theorem d_M_change_82 : decode b_M_change 82 = .ok (.iastore, 1) := by decide +kernel
theorem d_M_change_83 : decode b_M_change 83 = .ok (.aload_n 0, 1) := by decide +kernel
theorem d_M_change_84 : decode b_M_change 84 = .ok (.dup, 1) := by decide +kernel
theorem d_M_change_85 : decode b_M_change 85 = .ok (.getfield 150, 3) := by decide +kernel
theorem d_M_change_88 : decode b_M_change 88 = .ok (.iconst 1, 1) := by decide +kernel
theorem d_M_change_89 : decode b_M_change 89 = .ok (.iadd, 1) := by decide +kernel
theorem d_M_change_90 : decode b_M_change 90 = .ok (.putfield 150, 3) := by decide +kernel
theorem d_M_change_93 : decode b_M_change 93 = .ok (.iconst 0, 1) := by decide +kernel
theorem d_M_change_94 : decode b_M_change 94 = .ok (.ireturn, 1) := by decide +kernel
theorem d_M_back_0 : decode b_M_back 0 = .ok (.aload_n 0, 1) := by decide +kernel
theorem d_M_back_1 : decode b_M_back 1 = .ok (.getfield 150, 3) := by decide +kernel
theorem d_M_back_4 : decode b_M_back 4 = .ok (.ifCond .ne 5, 3) := by decide +kernel
theorem d_M_back_7 : decode b_M_back 7 = .ok (.iconst (-1), 1) := by decide +kernel
theorem d_M_back_8 : decode b_M_back 8 = .ok (.ireturn, 1) := by decide +kernel
theorem d_M_back_9 : decode b_M_back 9 = .ok (.aload_n 0, 1) := by decide +kernel
theorem d_M_back_10 : decode b_M_back 10 = .ok (.dup, 1) := by decide +kernel
theorem d_M_back_11 : decode b_M_back 11 = .ok (.getfield 150, 3) := by decide +kernel
theorem d_M_back_14 : decode b_M_back 14 = .ok (.iconst 1, 1) := by decide +kernel
theorem d_M_back_15 : decode b_M_back 15 = .ok (.isub, 1) := by decide +kernel
theorem d_M_back_16 : decode b_M_back 16 = .ok (.putfield 150, 3) := by decide +kernel
theorem d_M_back_19 : decode b_M_back 19 = .ok (.aload_n 0, 1) := by decide +kernel
theorem d_M_back_20 : decode b_M_back 20 = .ok (.getfield 7, 3) := by decide +kernel
theorem d_M_back_23 : decode b_M_back 23 = .ok (.aload_n 0, 1) := by decide +kernel
theorem d_M_back_24 : decode b_M_back 24 = .ok (.getfield 13, 3) := by decide +kernel
theorem d_M_back_27 : decode b_M_back 27 = .ok (.aload_n 0, 1) := by decide +kernel
theorem d_M_back_28 : decode b_M_back 28 = .ok (.getfield 150, 3) := by decide +kernel
theorem d_M_back_31 : decode b_M_back 31 = .ok (.iaload, 1) := by decide +kernel
theorem d_M_back_32 : decode b_M_back 32 = .ok (.dup2, 1) := by decide +kernel
theorem d_M_back_33 : decode b_M_back 33 = .ok (.iaload, 1) := by decide +kernel
theorem d_M_back_34 : decode b_M_back 34 = .ok (.aload_n 0, 1) := by decide +kernel
theorem d_M_back_35 : decode b_M_back 35 = .ok (.getfield 16, 3) := by decide +kernel
theorem d_M_back_38 : decode b_M_back 38 = .ok (.aload_n 0, 1) := by decide +kernel
theorem d_M_back_39 : decode b_M_back 39 = .ok (.getfield 150, 3) := by decide +kernel
theorem d_M_back_42 : decode b_M_back 42 = .ok (.iaload, 1) := by decide +kernel
theorem d_M_back_43 : decode b_M_back 43 = .ok (.isub, 1) := by decide +kernel
theorem d_M_back_44 : decode b_M_back 44 = .ok (.iastore, 1) := by decide +kernel
theorem d_M_back_45 : decode b_M_back 45 = .ok (.aload_n 0, 1) := by decide +kernel
theorem d_M_back_46 : decode b_M_back 46 = .ok (.getfield 150, 3) := by decide +kernel
theorem d_M_back_49 : decode b_M_back 49 = .ok (.ireturn, 1) := by decide +kernel
theorem d_M_sign_0 : decode b_M_sign 0 = .ok (.iload_n 1, 1) := by decide +kernel
theorem d_M_sign_1 : decode b_M_sign 1 = .ok (.bipush 33, 2) := by decide +kernel
theorem d_M_sign_3 : decode b_M_sign 3 = .ok (.if_icmp .lt 18, 3) := by decide +kernel
theorem d_M_sign_6 : decode b_M_sign 6 = .ok (.iload_n 1, 1) := by decide +kernel
theorem d_M_sign_7 : decode b_M_sign 7 = .ok (.bipush 126, 2) := by decide +kernel
theorem d_M_sign_9 : decode b_M_sign 9 = .ok (.if_icmp .gt 12, 3) := by decide +kernel
theorem d_M_sign_12 : decode b_M_sign 12 = .ok (.aload_n 0, 1) := by decide +kernel
theorem d_M_sign_13 : decode b_M_sign 13 = .ok (.getfield 82, 3) := by decide +kernel
theorem d_M_sign_16 : decode b_M_sign 16 = .ok (.bipush 30, 2) := by decide +kernel
theorem d_M_sign_18 : decode b_M_sign 18 = .ok (.if_icmp .ne 5, 3) := by decide +kernel
theorem d_M_sign_21 : decode b_M_sign 21 = .ok (.iconst (-1), 1) := by decide +kernel
theorem d_M_sign_22 : decode b_M_sign 22 = .ok (.ireturn, 1) := by decide +kernel
theorem d_M_sign_23 : decode b_M_sign 23 = .ok (.aload_n 0, 1) := by decide +kernel
theorem d_M_sign_24 : decode b_M_sign 24 = .ok (.getfield 19, 3) := by decide +kernel
theorem d_M_sign_27 : decode b_M_sign 27 = .ok (.aload_n 0, 1) := by decide +kernel
theorem d_M_sign_28 : decode b_M_sign 28 = .ok (.getfield 82, 3) := by decide +kernel
theorem d_M_sign_31 : decode b_M_sign 31 = .ok (.iload_n 1, 1) := by decide +kernel
theorem d_M_sign_32 : decode b_M_sign 32 = .ok (.iastore, 1) := by decide +kernel
theorem d_M_sign_33 : decode b_M_sign 33 = .ok (.aload_n 0, 1) := by decide +kernel
theorem d_M_sign_34 : decode b_M_sign 34 = .ok (.dup, 1) := by decide +kernel
theorem d_M_sign_35 : decode b_M_sign 35 = .ok (.getfield 82, 3) := by decide +kernel
theorem d_M_sign_38 : decode b_M_sign 38 = .ok (.iconst 1, 1) := by decide +kernel
theorem d_M_sign_39 : decode b_M_sign 39 = .ok (.iadd, 1) := by decide +kernel
theorem d_M_sign_40 : decode b_M_sign 40 = .ok (.putfield 82, 3) := by decide +kernel
theorem d_M_sign_43 : decode b_M_sign 43 = .ok (.aload_n 0, 1) := by decide +kernel
theorem d_M_sign_44 : decode b_M_sign 44 = .ok (.getfield 82, 3) := by decide +kernel
theorem d_M_sign_47 : decode b_M_sign 47 = .ok (.ireturn, 1) := by decide +kernel
theorem d_M_clear_0 : decode b_M_clear 0 = .ok (.aload_n 0, 1) := by decide +kernel
theorem d_M_clear_1 : decode b_M_clear 1 = .ok (.iconst 0, 1) := by decide +kernel
theorem d_M_clear_2 : decode b_M_clear 2 = .ok (.putfield 82, 3) := by decide +kernel
theorem d_M_clear_5 : decode b_M_clear 5 = .ok (.iconst 0, 1) := by decide +kernel
theorem d_M_clear_6 : decode b_M_clear 6 = .ok (.ireturn, 1) := by decide +kernel
theorem d_M_fault_0 : decode b_M_fault 0 = .ok (.aload_n 0, 1) := by decide +kernel
theorem d_M_fault_1 : decode b_M_fault 1 = .ok (.invokevirtual 153, 3) := by decide +kernel
theorem d_M_fault_4 : decode b_M_fault 4 = .ok (.ireturn, 1) := by decide +kernel
theorem d_M_define_0 : decode b_M_define 0 = .ok (.iload_n 1, 1) := by decide +kernel
theorem d_M_define_1 : decode b_M_define 1 = .ok (.iconst 4, 1) := by decide +kernel
theorem d_M_define_2 : decode b_M_define 2 = .ok (.invokestatic 138, 3) := by decide +kernel
theorem d_M_define_5 : decode b_M_define 5 = .ok (.ifCond .ne 5, 3) := by decide +kernel
theorem d_M_define_8 : decode b_M_define 8 = .ok (.iconst (-1), 1) := by decide +kernel
theorem d_M_define_9 : decode b_M_define 9 = .ok (.ireturn, 1) := by decide +kernel
theorem d_M_define_10 : decode b_M_define 10 = .ok (.aload_n 0, 1) := by decide +kernel
theorem d_M_define_11 : decode b_M_define 11 = .ok (.invokevirtual 153, 3) := by decide +kernel
theorem d_M_define_14 : decode b_M_define 14 = .ok (.bipush (-2), 2) := by decide +kernel
theorem d_M_define_16 : decode b_M_define 16 = .ok (.if_icmp .eq 6, 3) := by decide +kernel
theorem d_M_define_19 : decode b_M_define 19 = .ok (.bipush (-2), 2) := by decide +kernel
theorem d_M_define_21 : decode b_M_define 21 = .ok (.ireturn, 1) := by decide +kernel
theorem d_M_define_22 : decode b_M_define 22 = .ok (.aload_n 0, 1) := by decide +kernel
theorem d_M_define_23 : decode b_M_define 23 = .ok (.getfield 85, 3) := by decide +kernel
theorem d_M_define_26 : decode b_M_define 26 = .ok (.ifCond .eq 6, 3) := by decide +kernel
theorem d_M_define_29 : decode b_M_define 29 = .ok (.bipush (-3), 2) := by decide +kernel
theorem d_M_define_31 : decode b_M_define 31 = .ok (.ireturn, 1) := by decide +kernel
theorem d_M_define_32 : decode b_M_define 32 = .ok (.aload_n 0, 1) := by decide +kernel
theorem d_M_define_33 : decode b_M_define 33 = .ok (.getfield 31, 3) := by decide +kernel
theorem d_M_define_36 : decode b_M_define 36 = .ok (.iload_n 1, 1) := by decide +kernel
theorem d_M_define_37 : decode b_M_define 37 = .ok (.iconst 1, 1) := by decide +kernel
theorem d_M_define_38 : decode b_M_define 38 = .ok (.bastore, 1) := by decide +kernel
theorem d_M_define_39 : decode b_M_define 39 = .ok (.aload_n 0, 1) := by decide +kernel
theorem d_M_define_40 : decode b_M_define 40 = .ok (.getfield 38, 3) := by decide +kernel
theorem d_M_define_43 : decode b_M_define 43 = .ok (.iload_n 1, 1) := by decide +kernel
theorem d_M_define_44 : decode b_M_define 44 = .ok (.aload_n 0, 1) := by decide +kernel
theorem d_M_define_45 : decode b_M_define 45 = .ok (.getfield 78, 3) := by decide +kernel
theorem d_M_define_48 : decode b_M_define 48 = .ok (.iastore, 1) := by decide +kernel
theorem d_M_define_49 : decode b_M_define 49 = .ok (.aload_n 0, 1) := by decide +kernel
theorem d_M_define_50 : decode b_M_define 50 = .ok (.getfield 41, 3) := by decide +kernel
theorem d_M_define_53 : decode b_M_define 53 = .ok (.iload_n 1, 1) := by decide +kernel
theorem d_M_define_54 : decode b_M_define 54 = .ok (.aload_n 0, 1) := by decide +kernel
theorem d_M_define_55 : decode b_M_define 55 = .ok (.getfield 125, 3) := by decide +kernel
theorem d_M_define_58 : decode b_M_define 58 = .ok (.iastore, 1) := by decide +kernel
theorem d_M_define_59 : decode b_M_define 59 = .ok (.aload_n 0, 1) := by decide +kernel
theorem d_M_define_60 : decode b_M_define 60 = .ok (.getfield 44, 3) := by decide +kernel
theorem d_M_define_63 : decode b_M_define 63 = .ok (.iload_n 1, 1) := by decide +kernel
theorem d_M_define_64 : decode b_M_define 64 = .ok (.aload_n 0, 1) := by decide +kernel
theorem d_M_define_65 : decode b_M_define 65 = .ok (.getfield 119, 3) := by decide +kernel
theorem d_M_define_68 : decode b_M_define 68 = .ok (.iastore, 1) := by decide +kernel
theorem d_M_define_69 : decode b_M_define 69 = .ok (.iconst 0, 1) := by decide +kernel
theorem d_M_define_70 : decode b_M_define 70 = .ok (.istore_n 2, 1) := by decide +kernel
theorem d_M_define_71 : decode b_M_define 71 = .ok (.iconst 0, 1) := by decide +kernel
theorem d_M_define_72 : decode b_M_define 72 = .ok (.istore_n 3, 1) := by decide +kernel
theorem d_M_define_73 : decode b_M_define 73 = .ok (.iload_n 3, 1) := by decide +kernel
theorem d_M_define_74 : decode b_M_define 74 = .ok (.bipush 81, 2) := by decide +kernel
theorem d_M_define_76 : decode b_M_define 76 = .ok (.if_icmp .ge 38, 3) := by decide +kernel
theorem d_M_define_79 : decode b_M_define 79 = .ok (.aload_n 0, 1) := by decide +kernel
theorem d_M_define_80 : decode b_M_define 80 = .ok (.getfield 50, 3) := by decide +kernel
theorem d_M_define_83 : decode b_M_define 83 = .ok (.bipush 81, 2) := by decide +kernel
theorem d_M_define_85 : decode b_M_define 85 = .ok (.iload_n 1, 1) := by decide +kernel
theorem d_M_define_86 : decode b_M_define 86 = .ok (.imul, 1) := by decide +kernel
theorem d_M_define_87 : decode b_M_define 87 = .ok (.iload_n 3, 1) := by decide +kernel
theorem d_M_define_88 : decode b_M_define 88 = .ok (.iadd, 1) := by decide +kernel
theorem d_M_define_89 : decode b_M_define 89 = .ok (.aload_n 0, 1) := by decide +kernel
theorem d_M_define_90 : decode b_M_define 90 = .ok (.getfield 53, 3) := by decide +kernel
theorem d_M_define_93 : decode b_M_define 93 = .ok (.iload_n 3, 1) := by decide +kernel
theorem d_M_define_94 : decode b_M_define 94 = .ok (.iaload, 1) := by decide +kernel
theorem d_M_define_95 : decode b_M_define 95 = .ok (.iastore, 1) := by decide +kernel
theorem d_M_define_96 : decode b_M_define 96 = .ok (.aload_n 0, 1) := by decide +kernel
theorem d_M_define_97 : decode b_M_define 97 = .ok (.getfield 53, 3) := by decide +kernel
theorem d_M_define_100 : decode b_M_define 100 = .ok (.iload_n 3, 1) := by decide +kernel
theorem d_M_define_101 : decode b_M_define 101 = .ok (.iaload, 1) := by decide +kernel
theorem d_M_define_102 : decode b_M_define 102 = .ok (.ifCond .eq 6, 3) := by decide +kernel
theorem d_M_define_105 : decode b_M_define 105 = .ok (.iinc 2 1, 3) := by decide +kernel
theorem d_M_define_108 : decode b_M_define 108 = .ok (.iinc 3 1, 3) := by decide +kernel
theorem d_M_define_111 : decode b_M_define 111 = .ok (.goto (-38), 3) := by decide +kernel
theorem d_M_define_114 : decode b_M_define 114 = .ok (.iconst 0, 1) := by decide +kernel
theorem d_M_define_115 : decode b_M_define 115 = .ok (.istore_n 3, 1) := by decide +kernel
theorem d_M_define_116 : decode b_M_define 116 = .ok (.iload_n 3, 1) := by decide +kernel
theorem d_M_define_117 : decode b_M_define 117 = .ok (.aload_n 0, 1) := by decide +kernel
theorem d_M_define_118 : decode b_M_define 118 = .ok (.getfield 119, 3) := by decide +kernel
theorem d_M_define_121 : decode b_M_define 121 = .ok (.if_icmp .ge 47, 3) := by decide +kernel
theorem d_M_define_124 : decode b_M_define 124 = .ok (.aload_n 0, 1) := by decide +kernel
theorem d_M_define_125 : decode b_M_define 125 = .ok (.getfield 47, 3) := by decide +kernel
theorem d_M_define_128 : decode b_M_define 128 = .ok (.bipush 10, 2) := by decide +kernel
theorem d_M_define_130 : decode b_M_define 130 = .ok (.iload_n 1, 1) := by decide +kernel
theorem d_M_define_131 : decode b_M_define 131 = .ok (.imul, 1) := by decide +kernel
theorem d_M_define_132 : decode b_M_define 132 = .ok (.iload_n 3, 1) := by decide +kernel
theorem d_M_define_133 : decode b_M_define 133 = .ok (.iadd, 1) := by decide +kernel
theorem d_M_define_134 : decode b_M_define 134 = .ok (.aload_n 0, 1) := by decide +kernel
theorem d_M_define_135 : decode b_M_define 135 = .ok (.getfield 22, 3) := by decide +kernel
theorem d_M_define_138 : decode b_M_define 138 = .ok (.iload_n 3, 1) := by decide +kernel
theorem d_M_define_139 : decode b_M_define 139 = .ok (.iaload, 1) := by decide +kernel
theorem d_M_define_140 : decode b_M_define 140 = .ok (.sipush 128, 3) := by decide +kernel
theorem d_M_define_143 : decode b_M_define 143 = .ok (.imul, 1) := by decide +kernel
theorem d_M_define_144 : decode b_M_define 144 = .ok (.aload_n 0, 1) := by decide +kernel
theorem d_M_define_145 : decode b_M_define 145 = .ok (.getfield 25, 3) := by decide +kernel
