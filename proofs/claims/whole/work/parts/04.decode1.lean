theorem dX7_init_233 : decode cX7_init 233 = .ok (.if_icmp .ge 65, 3) := by decide +kernel
theorem dX7_init_236 : decode cX7_init 236 = .ok (.iconst 0, 1) := by decide +kernel
theorem dX7_init_237 : decode cX7_init 237 = .ok (.istore_n 2, 1) := by decide +kernel
theorem dX7_init_238 : decode cX7_init 238 = .ok (.iload_n 2, 1) := by decide +kernel
theorem dX7_init_239 : decode cX7_init 239 = .ok (.bipush 16, 2) := by decide +kernel
theorem dX7_init_241 : decode cX7_init 241 = .ok (.if_icmp .ge 27, 3) := by decide +kernel
theorem dX7_init_244 : decode cX7_init 244 = .ok (.aload_n 0, 1) := by decide +kernel
theorem dX7_init_245 : decode cX7_init 245 = .ok (.getfield 65, 3) := by decide +kernel
theorem dX7_init_248 : decode cX7_init 248 = .ok (.iload_n 1, 1) := by decide +kernel
theorem dX7_init_249 : decode cX7_init 249 = .ok (.aaload, 1) := by decide +kernel
theorem dX7_init_250 : decode cX7_init 250 = .ok (.iload_n 2, 1) := by decide +kernel
theorem dX7_init_251 : decode cX7_init 251 = .ok (.iconst (-1), 1) := by decide +kernel
theorem dX7_init_252 : decode cX7_init 252 = .ok (.iastore, 1) := by decide +kernel
theorem dX7_init_253 : decode cX7_init 253 = .ok (.aload_n 0, 1) := by decide +kernel
theorem dX7_init_254 : decode cX7_init 254 = .ok (.getfield 73, 3) := by decide +kernel
theorem dX7_init_257 : decode cX7_init 257 = .ok (.iload_n 1, 1) := by decide +kernel
theorem dX7_init_258 : decode cX7_init 258 = .ok (.aaload, 1) := by decide +kernel
theorem dX7_init_259 : decode cX7_init 259 = .ok (.iload_n 2, 1) := by decide +kernel
theorem dX7_init_260 : decode cX7_init 260 = .ok (.iconst (-1), 1) := by decide +kernel
theorem dX7_init_261 : decode cX7_init 261 = .ok (.iastore, 1) := by decide +kernel
theorem dX7_init_262 : decode cX7_init 262 = .ok (.iinc 2 1, 3) := by decide +kernel
theorem dX7_init_265 : decode cX7_init 265 = .ok (.goto (-27), 3) := by decide +kernel
theorem dX7_init_268 : decode cX7_init 268 = .ok (.iconst 0, 1) := by decide +kernel
theorem dX7_init_269 : decode cX7_init 269 = .ok (.istore_n 2, 1) := by decide +kernel
theorem dX7_init_270 : decode cX7_init 270 = .ok (.iload_n 2, 1) := by decide +kernel
theorem dX7_init_271 : decode cX7_init 271 = .ok (.bipush 8, 2) := by decide +kernel
theorem dX7_init_273 : decode cX7_init 273 = .ok (.if_icmp .ge 19, 3) := by decide +kernel
theorem dX7_init_276 : decode cX7_init 276 = .ok (.aload_n 0, 1) := by decide +kernel
theorem dX7_init_277 : decode cX7_init 277 = .ok (.getfield 56, 3) := by decide +kernel
theorem dX7_init_280 : decode cX7_init 280 = .ok (.iload_n 1, 1) := by decide +kernel
theorem dX7_init_281 : decode cX7_init 281 = .ok (.aaload, 1) := by decide +kernel
theorem dX7_init_282 : decode cX7_init 282 = .ok (.iload_n 2, 1) := by decide +kernel
theorem dX7_init_283 : decode cX7_init 283 = .ok (.bipush 100, 2) := by decide +kernel
theorem dX7_init_285 : decode cX7_init 285 = .ok (.iastore, 1) := by decide +kernel
theorem dX7_init_286 : decode cX7_init 286 = .ok (.iinc 2 1, 3) := by decide +kernel
theorem dX7_init_289 : decode cX7_init 289 = .ok (.goto (-19), 3) := by decide +kernel
theorem dX7_init_292 : decode cX7_init 292 = .ok (.iinc 1 1, 3) := by decide +kernel
theorem dX7_init_295 : decode cX7_init 295 = .ok (.goto (-65), 3) := by decide +kernel
theorem dX7_init_298 : decode cX7_init 298 = .ok (.iconst 0, 1) := by decide +kernel
theorem dX7_init_299 : decode cX7_init 299 = .ok (.istore_n 1, 1) := by decide +kernel
theorem dX7_init_300 : decode cX7_init 300 = .ok (.iload_n 1, 1) := by decide +kernel
theorem dX7_init_301 : decode cX7_init 301 = .ok (.bipush 8, 2) := by decide +kernel
theorem dX7_init_303 : decode cX7_init 303 = .ok (.if_icmp .ge 16, 3) := by decide +kernel
theorem dX7_init_306 : decode cX7_init 306 = .ok (.aload_n 0, 1) := by decide +kernel
theorem dX7_init_307 : decode cX7_init 307 = .ok (.getfield 47, 3) := by decide +kernel
theorem dX7_init_310 : decode cX7_init 310 = .ok (.iload_n 1, 1) := by decide +kernel
theorem dX7_init_311 : decode cX7_init 311 = .ok (.iconst (-1), 1) := by decide +kernel
theorem dX7_init_312 : decode cX7_init 312 = .ok (.iastore, 1) := by decide +kernel
theorem dX7_init_313 : decode cX7_init 313 = .ok (.iinc 1 1, 3) := by decide +kernel
theorem dX7_init_316 : decode cX7_init 316 = .ok (.goto (-16), 3) := by decide +kernel
theorem dX7_init_319 : decode cX7_init 319 = .ok (.return_, 1) := by decide +kernel
theorem dX7_thrown_0 : decode cX7_thrown 0 = .ok (.aload_n 0, 1) := by decide +kernel
theorem dX7_thrown_1 : decode cX7_thrown 1 = .ok (.getfield 76, 3) := by decide +kernel
theorem dX7_thrown_4 : decode cX7_thrown 4 = .ok (.ireturn, 1) := by decide +kernel
theorem dX7_isThrown_0 : decode cX7_isThrown 0 = .ok (.aload_n 0, 1) := by decide +kernel
theorem dX7_isThrown_1 : decode cX7_isThrown 1 = .ok (.iload_n 1, 1) := by decide +kernel
theorem dX7_isThrown_2 : decode cX7_isThrown 2 = .ok (.ifCond .eq 7, 3) := by decide +kernel
theorem dX7_isThrown_5 : decode cX7_isThrown 5 = .ok (.iload_n 2, 1) := by decide +kernel
theorem dX7_isThrown_6 : decode cX7_isThrown 6 = .ok (.goto 4, 3) := by decide +kernel
theorem dX7_isThrown_9 : decode cX7_isThrown 9 = .ok (.iconst 0, 1) := by decide +kernel
theorem dX7_isThrown_10 : decode cX7_isThrown 10 = .ok (.putfield 76, 3) := by decide +kernel
theorem dX7_isThrown_13 : decode cX7_isThrown 13 = .ok (.iload_n 1, 1) := by decide +kernel
theorem dX7_isThrown_14 : decode cX7_isThrown 14 = .ok (.ireturn, 1) := by decide +kernel
theorem dX7_isIn_0 : decode cX7_isIn 0 = .ok (.iload_n 0, 1) := by decide +kernel
theorem dX7_isIn_1 : decode cX7_isIn 1 = .ok (.iload_n 1, 1) := by decide +kernel
theorem dX7_isIn_2 : decode cX7_isIn 2 = .ok (.if_icmp .lt 12, 3) := by decide +kernel
theorem dX7_isIn_5 : decode cX7_isIn 5 = .ok (.iload_n 0, 1) := by decide +kernel
theorem dX7_isIn_6 : decode cX7_isIn 6 = .ok (.iload_n 2, 1) := by decide +kernel
theorem dX7_isIn_7 : decode cX7_isIn 7 = .ok (.if_icmp .gt 7, 3) := by decide +kernel
theorem dX7_isIn_10 : decode cX7_isIn 10 = .ok (.iconst 1, 1) := by decide +kernel
theorem dX7_isIn_11 : decode cX7_isIn 11 = .ok (.goto 4, 3) := by decide +kernel
theorem dX7_isIn_14 : decode cX7_isIn 14 = .ok (.iconst 0, 1) := by decide +kernel
theorem dX7_isIn_15 : decode cX7_isIn 15 = .ok (.ireturn, 1) := by decide +kernel
theorem dX7_isNoAthlete_0 : decode cX7_isNoAthlete 0 = .ok (.iload_n 1, 1) := by decide +kernel
theorem dX7_isNoAthlete_1 : decode cX7_isNoAthlete 1 = .ok (.iconst 0, 1) := by decide +kernel
theorem dX7_isNoAthlete_2 : decode cX7_isNoAthlete 2 = .ok (.aload_n 0, 1) := by decide +kernel
theorem dX7_isNoAthlete_3 : decode cX7_isNoAthlete 3 = .ok (.getfield 80, 3) := by decide +kernel
theorem dX7_isNoAthlete_6 : decode cX7_isNoAthlete 6 = .ok (.iconst 1, 1) := by decide +kernel
theorem dX7_isNoAthlete_7 : decode cX7_isNoAthlete 7 = .ok (.isub, 1) := by decide +kernel
theorem dX7_isNoAthlete_8 : decode cX7_isNoAthlete 8 = .ok (.invokestatic 83, 3) := by decide +kernel
theorem dX7_isNoAthlete_11 : decode cX7_isNoAthlete 11 = .ok (.ifCond .ne 7, 3) := by decide +kernel
theorem dX7_isNoAthlete_14 : decode cX7_isNoAthlete 14 = .ok (.iconst 1, 1) := by decide +kernel
theorem dX7_isNoAthlete_15 : decode cX7_isNoAthlete 15 = .ok (.goto 4, 3) := by decide +kernel
theorem dX7_isNoAthlete_18 : decode cX7_isNoAthlete 18 = .ok (.iconst 0, 1) := by decide +kernel
theorem dX7_isNoAthlete_19 : decode cX7_isNoAthlete 19 = .ok (.ireturn, 1) := by decide +kernel
theorem dX7_isNoLand_0 : decode cX7_isNoLand 0 = .ok (.iload_n 0, 1) := by decide +kernel
theorem dX7_isNoLand_1 : decode cX7_isNoLand 1 = .ok (.iconst 0, 1) := by decide +kernel
theorem dX7_isNoLand_2 : decode cX7_isNoLand 2 = .ok (.iconst 5, 1) := by decide +kernel
theorem dX7_isNoLand_3 : decode cX7_isNoLand 3 = .ok (.invokestatic 83, 3) := by decide +kernel
theorem dX7_isNoLand_6 : decode cX7_isNoLand 6 = .ok (.ifCond .ne 7, 3) := by decide +kernel
theorem dX7_isNoLand_9 : decode cX7_isNoLand 9 = .ok (.iconst 1, 1) := by decide +kernel
theorem dX7_isNoLand_10 : decode cX7_isNoLand 10 = .ok (.goto 4, 3) := by decide +kernel
theorem dX7_isNoLand_13 : decode cX7_isNoLand 13 = .ok (.iconst 0, 1) := by decide +kernel
theorem dX7_isNoLand_14 : decode cX7_isNoLand 14 = .ok (.ireturn, 1) := by decide +kernel
theorem dX7_isNoKind_0 : decode cX7_isNoKind 0 = .ok (.iload_n 1, 1) := by decide +kernel
theorem dX7_isNoKind_1 : decode cX7_isNoKind 1 = .ok (.iconst 0, 1) := by decide +kernel
theorem dX7_isNoKind_2 : decode cX7_isNoKind 2 = .ok (.aload_n 0, 1) := by decide +kernel
theorem dX7_isNoKind_3 : decode cX7_isNoKind 3 = .ok (.getfield 87, 3) := by decide +kernel
theorem dX7_isNoKind_6 : decode cX7_isNoKind 6 = .ok (.iconst 1, 1) := by decide +kernel
theorem dX7_isNoKind_7 : decode cX7_isNoKind 7 = .ok (.isub, 1) := by decide +kernel
theorem dX7_isNoKind_8 : decode cX7_isNoKind 8 = .ok (.invokestatic 83, 3) := by decide +kernel
theorem dX7_isNoKind_11 : decode cX7_isNoKind 11 = .ok (.ifCond .ne 7, 3) := by decide +kernel
theorem dX7_isNoKind_14 : decode cX7_isNoKind 14 = .ok (.iconst 1, 1) := by decide +kernel
theorem dX7_isNoKind_15 : decode cX7_isNoKind 15 = .ok (.goto 4, 3) := by decide +kernel
theorem dX7_isNoKind_18 : decode cX7_isNoKind 18 = .ok (.iconst 0, 1) := by decide +kernel
theorem dX7_isNoKind_19 : decode cX7_isNoKind 19 = .ok (.ireturn, 1) := by decide +kernel
theorem dX7_athlete_0 : decode cX7_athlete 0 = .ok (.aload_n 0, 1) := by decide +kernel
theorem dX7_athlete_1 : decode cX7_athlete 1 = .ok (.iload_n 1, 1) := by decide +kernel
theorem dX7_athlete_2 : decode cX7_athlete 2 = .ok (.invokestatic 90, 3) := by decide +kernel
theorem dX7_athlete_5 : decode cX7_athlete 5 = .ok (.iconst 1, 1) := by decide +kernel
theorem dX7_athlete_6 : decode cX7_athlete 6 = .ok (.invokevirtual 94, 3) := by decide +kernel
theorem dX7_athlete_9 : decode cX7_athlete 9 = .ok (.ifCond .ne 25, 3) := by decide +kernel
theorem dX7_athlete_12 : decode cX7_athlete 12 = .ok (.aload_n 0, 1) := by decide +kernel
theorem dX7_athlete_13 : decode cX7_athlete 13 = .ok (.aload_n 0, 1) := by decide +kernel
theorem dX7_athlete_14 : decode cX7_athlete 14 = .ok (.getfield 80, 3) := by decide +kernel
theorem dX7_athlete_17 : decode cX7_athlete 17 = .ok (.bipush 16, 2) := by decide +kernel
theorem dX7_athlete_19 : decode cX7_athlete 19 = .ok (.if_icmp .ne 7, 3) := by decide +kernel
theorem dX7_athlete_22 : decode cX7_athlete 22 = .ok (.iconst 1, 1) := by decide +kernel
theorem dX7_athlete_23 : decode cX7_athlete 23 = .ok (.goto 4, 3) := by decide +kernel
theorem dX7_athlete_26 : decode cX7_athlete 26 = .ok (.iconst 0, 1) := by decide +kernel
theorem dX7_athlete_27 : decode cX7_athlete 27 = .ok (.iconst 2, 1) := by decide +kernel
theorem dX7_athlete_28 : decode cX7_athlete 28 = .ok (.invokevirtual 94, 3) := by decide +kernel
theorem dX7_athlete_31 : decode cX7_athlete 31 = .ok (.ifCond .eq 5, 3) := by decide +kernel
theorem dX7_athlete_34 : decode cX7_athlete 34 = .ok (.iconst 0, 1) := by decide +kernel
theorem dX7_athlete_35 : decode cX7_athlete 35 = .ok (.ireturn, 1) := by decide +kernel
theorem dX7_athlete_36 : decode cX7_athlete 36 = .ok (.aload_n 0, 1) := by decide +kernel
theorem dX7_athlete_37 : decode cX7_athlete 37 = .ok (.getfield 9, 3) := by decide +kernel
theorem dX7_athlete_40 : decode cX7_athlete 40 = .ok (.aload_n 0, 1) := by decide +kernel
theorem dX7_athlete_41 : decode cX7_athlete 41 = .ok (.getfield 80, 3) := by decide +kernel
theorem dX7_athlete_44 : decode cX7_athlete 44 = .ok (.iload_n 1, 1) := by decide +kernel
theorem dX7_athlete_45 : decode cX7_athlete 45 = .ok (.iastore, 1) := by decide +kernel
theorem dX7_athlete_46 : decode cX7_athlete 46 = .ok (.iconst 0, 1) := by decide +kernel
theorem dX7_athlete_47 : decode cX7_athlete 47 = .ok (.istore_n 2, 1) := by decide +kernel
theorem dX7_athlete_48 : decode cX7_athlete 48 = .ok (.iload_n 2, 1) := by decide +kernel
theorem dX7_athlete_49 : decode cX7_athlete 49 = .ok (.iconst 5, 1) := by decide +kernel
theorem dX7_athlete_50 : decode cX7_athlete 50 = .ok (.if_icmp .ge 34, 3) := by decide +kernel
theorem dX7_athlete_53 : decode cX7_athlete 53 = .ok (.aload_n 0, 1) := by decide +kernel
theorem dX7_athlete_54 : decode cX7_athlete 54 = .ok (.getfield 15, 3) := by decide +kernel
theorem dX7_athlete_57 : decode cX7_athlete 57 = .ok (.aload_n 0, 1) := by decide +kernel
theorem dX7_athlete_58 : decode cX7_athlete 58 = .ok (.getfield 80, 3) := by decide +kernel
theorem dX7_athlete_61 : decode cX7_athlete 61 = .ok (.aaload, 1) := by decide +kernel
theorem dX7_athlete_62 : decode cX7_athlete 62 = .ok (.iload_n 2, 1) := by decide +kernel
theorem dX7_athlete_63 : decode cX7_athlete 63 = .ok (.bipush 100, 2) := by decide +kernel
theorem dX7_athlete_65 : decode cX7_athlete 65 = .ok (.iastore, 1) := by decide +kernel
theorem dX7_athlete_66 : decode cX7_athlete 66 = .ok (.aload_n 0, 1) := by decide +kernel
theorem dX7_athlete_67 : decode cX7_athlete 67 = .ok (.getfield 18, 3) := by decide +kernel
theorem dX7_athlete_70 : decode cX7_athlete 70 = .ok (.aload_n 0, 1) := by decide +kernel
theorem dX7_athlete_71 : decode cX7_athlete 71 = .ok (.getfield 80, 3) := by decide +kernel
theorem dX7_athlete_74 : decode cX7_athlete 74 = .ok (.aaload, 1) := by decide +kernel
theorem dX7_athlete_75 : decode cX7_athlete 75 = .ok (.iload_n 2, 1) := by decide +kernel
theorem dX7_athlete_76 : decode cX7_athlete 76 = .ok (.iconst (-1), 1) := by decide +kernel
theorem dX7_athlete_77 : decode cX7_athlete 77 = .ok (.iastore, 1) := by decide +kernel
theorem dX7_athlete_78 : decode cX7_athlete 78 = .ok (.iinc 2 1, 3) := by decide +kernel
theorem dX7_athlete_81 : decode cX7_athlete 81 = .ok (.goto (-33), 3) := by decide +kernel
theorem dX7_athlete_84 : decode cX7_athlete 84 = .ok (.aload_n 0, 1) := by decide +kernel
theorem dX7_athlete_85 : decode cX7_athlete 85 = .ok (.getfield 28, 3) := by decide +kernel
theorem dX7_athlete_88 : decode cX7_athlete 88 = .ok (.aload_n 0, 1) := by decide +kernel
theorem dX7_athlete_89 : decode cX7_athlete 89 = .ok (.getfield 80, 3) := by decide +kernel
theorem dX7_athlete_92 : decode cX7_athlete 92 = .ok (.bipush 45, 2) := by decide +kernel
theorem dX7_athlete_94 : decode cX7_athlete 94 = .ok (.castore, 1) := by decide +kernel
theorem dX7_athlete_95 : decode cX7_athlete 95 = .ok (.aload_n 0, 1) := by decide +kernel
theorem dX7_athlete_96 : decode cX7_athlete 96 = .ok (.getfield 32, 3) := by decide +kernel
theorem dX7_athlete_99 : decode cX7_athlete 99 = .ok (.aload_n 0, 1) := by decide +kernel
theorem dX7_athlete_100 : decode cX7_athlete 100 = .ok (.getfield 80, 3) := by decide +kernel
theorem dX7_athlete_103 : decode cX7_athlete 103 = .ok (.iconst (-1), 1) := by decide +kernel
theorem dX7_athlete_104 : decode cX7_athlete 104 = .ok (.iastore, 1) := by decide +kernel
theorem dX7_athlete_105 : decode cX7_athlete 105 = .ok (.aload_n 0, 1) := by decide +kernel
theorem dX7_athlete_106 : decode cX7_athlete 106 = .ok (.getfield 35, 3) := by decide +kernel
theorem dX7_athlete_109 : decode cX7_athlete 109 = .ok (.aload_n 0, 1) := by decide +kernel
theorem dX7_athlete_110 : decode cX7_athlete 110 = .ok (.getfield 80, 3) := by decide +kernel
theorem dX7_athlete_113 : decode cX7_athlete 113 = .ok (.iconst (-1), 1) := by decide +kernel
theorem dX7_athlete_114 : decode cX7_athlete 114 = .ok (.iastore, 1) := by decide +kernel
theorem dX7_athlete_115 : decode cX7_athlete 115 = .ok (.aload_n 0, 1) := by decide +kernel
theorem dX7_athlete_116 : decode cX7_athlete 116 = .ok (.dup, 1) := by decide +kernel
theorem dX7_athlete_117 : decode cX7_athlete 117 = .ok (.getfield 80, 3) := by decide +kernel
theorem dX7_athlete_120 : decode cX7_athlete 120 = .ok (.iconst 1, 1) := by decide +kernel
theorem dX7_athlete_121 : decode cX7_athlete 121 = .ok (.iadd, 1) := by decide +kernel
theorem dX7_athlete_122 : decode cX7_athlete 122 = .ok (.putfield 80, 3) := by decide +kernel
theorem dX7_athlete_125 : decode cX7_athlete 125 = .ok (.aload_n 0, 1) := by decide +kernel
theorem dX7_athlete_126 : decode cX7_athlete 126 = .ok (.getfield 80, 3) := by decide +kernel
theorem dX7_athlete_129 : decode cX7_athlete 129 = .ok (.iconst 1, 1) := by decide +kernel
theorem dX7_athlete_130 : decode cX7_athlete 130 = .ok (.isub, 1) := by decide +kernel
theorem dX7_athlete_131 : decode cX7_athlete 131 = .ok (.ireturn, 1) := by decide +kernel
theorem dX7_isMeasure_0 : decode cX7_isMeasure 0 = .ok (.iload_n 0, 1) := by decide +kernel
theorem dX7_isMeasure_1 : decode cX7_isMeasure 1 = .ok (.iconst 0, 1) := by decide +kernel
theorem dX7_isMeasure_2 : decode cX7_isMeasure 2 = .ok (.iconst 4, 1) := by decide +kernel
theorem dX7_isMeasure_3 : decode cX7_isMeasure 3 = .ok (.invokestatic 83, 3) := by decide +kernel
theorem dX7_isMeasure_6 : decode cX7_isMeasure 6 = .ok (.ireturn, 1) := by decide +kernel
theorem dX7_body_0 : decode cX7_body 0 = .ok (.aload_n 0, 1) := by decide +kernel
theorem dX7_body_1 : decode cX7_body 1 = .ok (.aload_n 0, 1) := by decide +kernel
theorem dX7_body_2 : decode cX7_body 2 = .ok (.iload_n 1, 1) := by decide +kernel
theorem dX7_body_3 : decode cX7_body 3 = .ok (.invokevirtual 98, 3) := by decide +kernel
theorem dX7_body_6 : decode cX7_body 6 = .ok (.iconst 1, 1) := by decide +kernel
theorem dX7_body_7 : decode cX7_body 7 = .ok (.invokevirtual 94, 3) := by decide +kernel
theorem dX7_body_10 : decode cX7_body 10 = .ok (.ifCond .ne 33, 3) := by decide +kernel
theorem dX7_body_13 : decode cX7_body 13 = .ok (.aload_n 0, 1) := by decide +kernel
theorem dX7_body_14 : decode cX7_body 14 = .ok (.iload_n 2, 1) := by decide +kernel
theorem dX7_body_15 : decode cX7_body 15 = .ok (.invokestatic 101, 3) := by decide +kernel
theorem dX7_body_18 : decode cX7_body 18 = .ok (.ifCond .eq 13, 3) := by decide +kernel
theorem dX7_body_21 : decode cX7_body 21 = .ok (.iload_n 3, 1) := by decide +kernel
theorem dX7_body_22 : decode cX7_body 22 = .ok (.iconst 0, 1) := by decide +kernel
theorem dX7_body_23 : decode cX7_body 23 = .ok (.bipush 100, 2) := by decide +kernel
theorem dX7_body_25 : decode cX7_body 25 = .ok (.invokestatic 83, 3) := by decide +kernel
theorem dX7_body_28 : decode cX7_body 28 = .ok (.ifCond .ne 7, 3) := by decide +kernel
theorem dX7_body_31 : decode cX7_body 31 = .ok (.iconst 1, 1) := by decide +kernel
theorem dX7_body_32 : decode cX7_body 32 = .ok (.goto 4, 3) := by decide +kernel
theorem dX7_body_35 : decode cX7_body 35 = .ok (.iconst 0, 1) := by decide +kernel
theorem dX7_body_36 : decode cX7_body 36 = .ok (.iconst 2, 1) := by decide +kernel
theorem dX7_body_37 : decode cX7_body 37 = .ok (.invokevirtual 94, 3) := by decide +kernel
theorem dX7_body_40 : decode cX7_body 40 = .ok (.ifCond .eq 5, 3) := by decide +kernel
theorem dX7_body_43 : decode cX7_body 43 = .ok (.iconst 0, 1) := by decide +kernel
theorem dX7_body_44 : decode cX7_body 44 = .ok (.ireturn, 1) := by decide +kernel
theorem dX7_body_45 : decode cX7_body 45 = .ok (.aload_n 0, 1) := by decide +kernel
theorem dX7_body_46 : decode cX7_body 46 = .ok (.getfield 15, 3) := by decide +kernel
theorem dX7_body_49 : decode cX7_body 49 = .ok (.iload_n 1, 1) := by decide +kernel
theorem dX7_body_50 : decode cX7_body 50 = .ok (.aaload, 1) := by decide +kernel
theorem dX7_body_51 : decode cX7_body 51 = .ok (.iload_n 2, 1) := by decide +kernel
theorem dX7_body_52 : decode cX7_body 52 = .ok (.iaload, 1) := by decide +kernel
theorem dX7_body_53 : decode cX7_body 53 = .ok (.istore 4, 2) := by decide +kernel
theorem dX7_body_55 : decode cX7_body 55 = .ok (.aload_n 0, 1) := by decide +kernel
theorem dX7_body_56 : decode cX7_body 56 = .ok (.getfield 15, 3) := by decide +kernel
theorem dX7_body_59 : decode cX7_body 59 = .ok (.iload_n 1, 1) := by decide +kernel
theorem dX7_body_60 : decode cX7_body 60 = .ok (.aaload, 1) := by decide +kernel
theorem dX7_body_61 : decode cX7_body 61 = .ok (.iload_n 2, 1) := by decide +kernel
theorem dX7_body_62 : decode cX7_body 62 = .ok (.iload_n 3, 1) := by decide +kernel
theorem dX7_body_63 : decode cX7_body 63 = .ok (.iastore, 1) := by decide +kernel
theorem dX7_body_64 : decode cX7_body 64 = .ok (.iload 4, 2) := by decide +kernel
theorem dX7_body_66 : decode cX7_body 66 = .ok (.ireturn, 1) := by decide +kernel
theorem dX7_shownOf_0 : decode cX7_shownOf 0 = .ok (.aload_n 0, 1) := by decide +kernel
theorem dX7_shownOf_1 : decode cX7_shownOf 1 = .ok (.getfield 18, 3) := by decide +kernel
theorem dX7_shownOf_4 : decode cX7_shownOf 4 = .ok (.iload_n 1, 1) := by decide +kernel
theorem dX7_shownOf_5 : decode cX7_shownOf 5 = .ok (.aaload, 1) := by decide +kernel
theorem dX7_shownOf_6 : decode cX7_shownOf 6 = .ok (.iload_n 2, 1) := by decide +kernel
theorem dX7_shownOf_7 : decode cX7_shownOf 7 = .ok (.iaload, 1) := by decide +kernel
theorem dX7_shownOf_8 : decode cX7_shownOf 8 = .ok (.iconst (-1), 1) := by decide +kernel
theorem dX7_shownOf_9 : decode cX7_shownOf 9 = .ok (.if_icmp .ne 14, 3) := by decide +kernel
theorem dX7_shownOf_12 : decode cX7_shownOf 12 = .ok (.aload_n 0, 1) := by decide +kernel
theorem dX7_shownOf_13 : decode cX7_shownOf 13 = .ok (.getfield 15, 3) := by decide +kernel
theorem dX7_shownOf_16 : decode cX7_shownOf 16 = .ok (.iload_n 1, 1) := by decide +kernel
theorem dX7_shownOf_17 : decode cX7_shownOf 17 = .ok (.aaload, 1) := by decide +kernel
theorem dX7_shownOf_18 : decode cX7_shownOf 18 = .ok (.iload_n 2, 1) := by decide +kernel
theorem dX7_shownOf_19 : decode cX7_shownOf 19 = .ok (.iaload, 1) := by decide +kernel
theorem dX7_shownOf_20 : decode cX7_shownOf 20 = .ok (.goto 11, 3) := by decide +kernel
theorem dX7_shownOf_23 : decode cX7_shownOf 23 = .ok (.aload_n 0, 1) := by decide +kernel
theorem dX7_shownOf_24 : decode cX7_shownOf 24 = .ok (.getfield 18, 3) := by decide +kernel
theorem dX7_shownOf_27 : decode cX7_shownOf 27 = .ok (.iload_n 1, 1) := by decide +kernel
theorem dX7_shownOf_28 : decode cX7_shownOf 28 = .ok (.aaload, 1) := by decide +kernel
theorem dX7_shownOf_29 : decode cX7_shownOf 29 = .ok (.iload_n 2, 1) := by decide +kernel
theorem dX7_shownOf_30 : decode cX7_shownOf 30 = .ok (.iaload, 1) := by decide +kernel
theorem dX7_shownOf_31 : decode cX7_shownOf 31 = .ok (.ireturn, 1) := by decide +kernel
theorem dX7_show_0 : decode cX7_show 0 = .ok (.aload_n 0, 1) := by decide +kernel
theorem dX7_show_1 : decode cX7_show 1 = .ok (.aload_n 0, 1) := by decide +kernel
theorem dX7_show_2 : decode cX7_show 2 = .ok (.iload_n 1, 1) := by decide +kernel
theorem dX7_show_3 : decode cX7_show 3 = .ok (.invokevirtual 98, 3) := by decide +kernel
theorem dX7_show_6 : decode cX7_show 6 = .ok (.iconst 1, 1) := by decide +kernel
theorem dX7_show_7 : decode cX7_show 7 = .ok (.invokevirtual 94, 3) := by decide +kernel
theorem dX7_show_10 : decode cX7_show 10 = .ok (.ifCond .ne 33, 3) := by decide +kernel
theorem dX7_show_13 : decode cX7_show 13 = .ok (.aload_n 0, 1) := by decide +kernel
theorem dX7_show_14 : decode cX7_show 14 = .ok (.iload_n 2, 1) := by decide +kernel
theorem dX7_show_15 : decode cX7_show 15 = .ok (.invokestatic 101, 3) := by decide +kernel
theorem dX7_show_18 : decode cX7_show 18 = .ok (.ifCond .eq 13, 3) := by decide +kernel
theorem dX7_show_21 : decode cX7_show 21 = .ok (.iload_n 3, 1) := by decide +kernel
theorem dX7_show_22 : decode cX7_show 22 = .ok (.iconst (-1), 1) := by decide +kernel
theorem dX7_show_23 : decode cX7_show 23 = .ok (.bipush 100, 2) := by decide +kernel
theorem dX7_show_25 : decode cX7_show 25 = .ok (.invokestatic 83, 3) := by decide +kernel
theorem dX7_show_28 : decode cX7_show 28 = .ok (.ifCond .ne 7, 3) := by decide +kernel
theorem dX7_show_31 : decode cX7_show 31 = .ok (.iconst 1, 1) := by decide +kernel
theorem dX7_show_32 : decode cX7_show 32 = .ok (.goto 4, 3) := by decide +kernel
theorem dX7_show_35 : decode cX7_show 35 = .ok (.iconst 0, 1) := by decide +kernel
theorem dX7_show_36 : decode cX7_show 36 = .ok (.iconst 2, 1) := by decide +kernel
theorem dX7_show_37 : decode cX7_show 37 = .ok (.invokevirtual 94, 3) := by decide +kernel
theorem dX7_show_40 : decode cX7_show 40 = .ok (.ifCond .eq 5, 3) := by decide +kernel
theorem dX7_show_43 : decode cX7_show 43 = .ok (.iconst 0, 1) := by decide +kernel
theorem dX7_show_44 : decode cX7_show 44 = .ok (.ireturn, 1) := by decide +kernel
theorem dX7_show_45 : decode cX7_show 45 = .ok (.aload_n 0, 1) := by decide +kernel
theorem dX7_show_46 : decode cX7_show 46 = .ok (.iload_n 1, 1) := by decide +kernel
theorem dX7_show_47 : decode cX7_show 47 = .ok (.iload_n 2, 1) := by decide +kernel
theorem dX7_show_48 : decode cX7_show 48 = .ok (.invokevirtual 104, 3) := by decide +kernel
theorem dX7_show_51 : decode cX7_show 51 = .ok (.istore 4, 2) := by decide +kernel
theorem dX7_show_53 : decode cX7_show 53 = .ok (.aload_n 0, 1) := by decide +kernel
theorem dX7_show_54 : decode cX7_show 54 = .ok (.getfield 18, 3) := by decide +kernel
theorem dX7_show_57 : decode cX7_show 57 = .ok (.iload_n 1, 1) := by decide +kernel
theorem dX7_show_58 : decode cX7_show 58 = .ok (.aaload, 1) := by decide +kernel
theorem dX7_show_59 : decode cX7_show 59 = .ok (.iload_n 2, 1) := by decide +kernel
theorem dX7_show_60 : decode cX7_show 60 = .ok (.iload_n 3, 1) := by decide +kernel
theorem dX7_show_61 : decode cX7_show 61 = .ok (.iastore, 1) := by decide +kernel
theorem dX7_show_62 : decode cX7_show 62 = .ok (.iload 4, 2) := by decide +kernel
theorem dX7_show_64 : decode cX7_show 64 = .ok (.ireturn, 1) := by decide +kernel
theorem dX7_found_0 : decode cX7_found 0 = .ok (.aload_n 0, 1) := by decide +kernel
theorem dX7_found_1 : decode cX7_found 1 = .ok (.aload_n 0, 1) := by decide +kernel
theorem dX7_found_2 : decode cX7_found 2 = .ok (.iload_n 1, 1) := by decide +kernel
theorem dX7_found_3 : decode cX7_found 3 = .ok (.invokevirtual 98, 3) := by decide +kernel
theorem dX7_found_6 : decode cX7_found 6 = .ok (.iconst 1, 1) := by decide +kernel
theorem dX7_found_7 : decode cX7_found 7 = .ok (.invokevirtual 94, 3) := by decide +kernel
theorem dX7_found_10 : decode cX7_found 10 = .ok (.ifCond .ne 45, 3) := by decide +kernel
theorem dX7_found_13 : decode cX7_found 13 = .ok (.aload_n 0, 1) := by decide +kernel
theorem dX7_found_14 : decode cX7_found 14 = .ok (.iload_n 2, 1) := by decide +kernel
theorem dX7_found_15 : decode cX7_found 15 = .ok (.invokestatic 101, 3) := by decide +kernel
theorem dX7_found_18 : decode cX7_found 18 = .ok (.ifCond .ne 7, 3) := by decide +kernel
theorem dX7_found_21 : decode cX7_found 21 = .ok (.iconst 1, 1) := by decide +kernel
theorem dX7_found_22 : decode cX7_found 22 = .ok (.goto 4, 3) := by decide +kernel
theorem dX7_found_25 : decode cX7_found 25 = .ok (.iconst 0, 1) := by decide +kernel
theorem dX7_found_26 : decode cX7_found 26 = .ok (.iconst 2, 1) := by decide +kernel
theorem dX7_found_27 : decode cX7_found 27 = .ok (.invokevirtual 94, 3) := by decide +kernel
theorem dX7_found_30 : decode cX7_found 30 = .ok (.ifCond .ne 25, 3) := by decide +kernel
theorem dX7_found_33 : decode cX7_found 33 = .ok (.aload_n 0, 1) := by decide +kernel
theorem dX7_found_34 : decode cX7_found 34 = .ok (.aload_n 0, 1) := by decide +kernel
theorem dX7_found_35 : decode cX7_found 35 = .ok (.getfield 24, 3) := by decide +kernel
theorem dX7_found_38 : decode cX7_found 38 = .ok (.iload_n 1, 1) := by decide +kernel
theorem dX7_found_39 : decode cX7_found 39 = .ok (.baload, 1) := by decide +kernel
theorem dX7_found_40 : decode cX7_found 40 = .ok (.ifCond .ne 7, 3) := by decide +kernel
theorem dX7_found_43 : decode cX7_found 43 = .ok (.iconst 1, 1) := by decide +kernel
theorem dX7_found_44 : decode cX7_found 44 = .ok (.goto 4, 3) := by decide +kernel
theorem dX7_found_47 : decode cX7_found 47 = .ok (.iconst 0, 1) := by decide +kernel
theorem dX7_found_48 : decode cX7_found 48 = .ok (.iconst 3, 1) := by decide +kernel
theorem dX7_found_49 : decode cX7_found 49 = .ok (.invokevirtual 94, 3) := by decide +kernel
theorem dX7_found_52 : decode cX7_found 52 = .ok (.ifCond .eq 5, 3) := by decide +kernel
theorem dX7_found_55 : decode cX7_found 55 = .ok (.iconst 0, 1) := by decide +kernel
theorem dX7_found_56 : decode cX7_found 56 = .ok (.ireturn, 1) := by decide +kernel
theorem dX7_found_57 : decode cX7_found 57 = .ok (.aload_n 0, 1) := by decide +kernel
theorem dX7_found_58 : decode cX7_found 58 = .ok (.getfield 21, 3) := by decide +kernel
theorem dX7_found_61 : decode cX7_found 61 = .ok (.iload_n 1, 1) := by decide +kernel
theorem dX7_found_62 : decode cX7_found 62 = .ok (.aaload, 1) := by decide +kernel
theorem dX7_found_63 : decode cX7_found 63 = .ok (.iload_n 2, 1) := by decide +kernel
theorem dX7_found_64 : decode cX7_found 64 = .ok (.iaload, 1) := by decide +kernel
theorem dX7_found_65 : decode cX7_found 65 = .ok (.ireturn, 1) := by decide +kernel
theorem dX7_classifier_0 : decode cX7_classifier 0 = .ok (.aload_n 0, 1) := by decide +kernel
theorem dX7_classifier_1 : decode cX7_classifier 1 = .ok (.iload_n 1, 1) := by decide +kernel
theorem dX7_classifier_2 : decode cX7_classifier 2 = .ok (.invokestatic 90, 3) := by decide +kernel
theorem dX7_classifier_5 : decode cX7_classifier 5 = .ok (.iconst 1, 1) := by decide +kernel
theorem dX7_classifier_6 : decode cX7_classifier 6 = .ok (.invokevirtual 94, 3) := by decide +kernel
theorem dX7_classifier_9 : decode cX7_classifier 9 = .ok (.ifCond .ne 25, 3) := by decide +kernel
theorem dX7_classifier_12 : decode cX7_classifier 12 = .ok (.aload_n 0, 1) := by decide +kernel
theorem dX7_classifier_13 : decode cX7_classifier 13 = .ok (.aload_n 0, 1) := by decide +kernel
theorem dX7_classifier_14 : decode cX7_classifier 14 = .ok (.getfield 108, 3) := by decide +kernel
theorem dX7_classifier_17 : decode cX7_classifier 17 = .ok (.bipush 8, 2) := by decide +kernel
theorem dX7_classifier_19 : decode cX7_classifier 19 = .ok (.if_icmp .ne 7, 3) := by decide +kernel
theorem dX7_classifier_22 : decode cX7_classifier 22 = .ok (.iconst 1, 1) := by decide +kernel
theorem dX7_classifier_23 : decode cX7_classifier 23 = .ok (.goto 4, 3) := by decide +kernel
theorem dX7_classifier_26 : decode cX7_classifier 26 = .ok (.iconst 0, 1) := by decide +kernel
theorem dX7_classifier_27 : decode cX7_classifier 27 = .ok (.iconst 2, 1) := by decide +kernel
theorem dX7_classifier_28 : decode cX7_classifier 28 = .ok (.invokevirtual 94, 3) := by decide +kernel
theorem dX7_classifier_31 : decode cX7_classifier 31 = .ok (.ifCond .eq 5, 3) := by decide +kernel
theorem dX7_classifier_34 : decode cX7_classifier 34 = .ok (.iconst 0, 1) := by decide +kernel
theorem dX7_classifier_35 : decode cX7_classifier 35 = .ok (.ireturn, 1) := by decide +kernel
theorem dX7_classifier_36 : decode cX7_classifier 36 = .ok (.aload_n 0, 1) := by decide +kernel
theorem dX7_classifier_37 : decode cX7_classifier 37 = .ok (.getfield 41, 3) := by decide +kernel
theorem dX7_classifier_40 : decode cX7_classifier 40 = .ok (.aload_n 0, 1) := by decide +kernel
theorem dX7_classifier_41 : decode cX7_classifier 41 = .ok (.getfield 108, 3) := by decide +kernel
theorem dX7_classifier_44 : decode cX7_classifier 44 = .ok (.iload_n 1, 1) := by decide +kernel
theorem dX7_classifier_45 : decode cX7_classifier 45 = .ok (.iastore, 1) := by decide +kernel
theorem dX7_classifier_46 : decode cX7_classifier 46 = .ok (.aload_n 0, 1) := by decide +kernel
theorem dX7_classifier_47 : decode cX7_classifier 47 = .ok (.dup, 1) := by decide +kernel
theorem dX7_classifier_48 : decode cX7_classifier 48 = .ok (.getfield 108, 3) := by decide +kernel
theorem dX7_classifier_51 : decode cX7_classifier 51 = .ok (.iconst 1, 1) := by decide +kernel
theorem dX7_classifier_52 : decode cX7_classifier 52 = .ok (.iadd, 1) := by decide +kernel
theorem dX7_classifier_53 : decode cX7_classifier 53 = .ok (.putfield 108, 3) := by decide +kernel
theorem dX7_classifier_56 : decode cX7_classifier 56 = .ok (.aload_n 0, 1) := by decide +kernel
theorem dX7_classifier_57 : decode cX7_classifier 57 = .ok (.getfield 108, 3) := by decide +kernel
theorem dX7_classifier_60 : decode cX7_classifier 60 = .ok (.iconst 1, 1) := by decide +kernel
theorem dX7_classifier_61 : decode cX7_classifier 61 = .ok (.isub, 1) := by decide +kernel
theorem dX7_classifier_62 : decode cX7_classifier 62 = .ok (.ireturn, 1) := by decide +kernel
theorem dX7_kind_0 : decode cX7_kind 0 = .ok (.aload_n 0, 1) := by decide +kernel
theorem dX7_kind_1 : decode cX7_kind 1 = .ok (.iload_n 1, 1) := by decide +kernel
theorem dX7_kind_2 : decode cX7_kind 2 = .ok (.invokestatic 101, 3) := by decide +kernel
theorem dX7_kind_5 : decode cX7_kind 5 = .ok (.ifCond .eq 36, 3) := by decide +kernel
theorem dX7_kind_8 : decode cX7_kind 8 = .ok (.iload_n 2, 1) := by decide +kernel
theorem dX7_kind_9 : decode cX7_kind 9 = .ok (.iconst 1, 1) := by decide +kernel
theorem dX7_kind_10 : decode cX7_kind 10 = .ok (.bipush 100, 2) := by decide +kernel
theorem dX7_kind_12 : decode cX7_kind 12 = .ok (.invokestatic 83, 3) := by decide +kernel
theorem dX7_kind_15 : decode cX7_kind 15 = .ok (.ifCond .eq 26, 3) := by decide +kernel
theorem dX7_kind_18 : decode cX7_kind 18 = .ok (.iload_n 3, 1) := by decide +kernel
theorem dX7_kind_19 : decode cX7_kind 19 = .ok (.iconst 0, 1) := by decide +kernel
theorem dX7_kind_20 : decode cX7_kind 20 = .ok (.sipush 500, 3) := by decide +kernel
theorem dX7_kind_23 : decode cX7_kind 23 = .ok (.invokestatic 83, 3) := by decide +kernel
theorem dX7_kind_26 : decode cX7_kind 26 = .ok (.ifCond .eq 15, 3) := by decide +kernel
theorem dX7_kind_29 : decode cX7_kind 29 = .ok (.iload 4, 2) := by decide +kernel
theorem dX7_kind_31 : decode cX7_kind 31 = .ok (.iload_n 3, 1) := by decide +kernel
theorem dX7_kind_32 : decode cX7_kind 32 = .ok (.sipush 500, 3) := by decide +kernel
theorem dX7_kind_35 : decode cX7_kind 35 = .ok (.invokestatic 83, 3) := by decide +kernel
theorem dX7_kind_38 : decode cX7_kind 38 = .ok (.ifCond .ne 7, 3) := by decide +kernel
theorem dX7_kind_41 : decode cX7_kind 41 = .ok (.iconst 1, 1) := by decide +kernel
theorem dX7_kind_42 : decode cX7_kind 42 = .ok (.goto 4, 3) := by decide +kernel
theorem dX7_kind_45 : decode cX7_kind 45 = .ok (.iconst 0, 1) := by decide +kernel
theorem dX7_kind_46 : decode cX7_kind 46 = .ok (.iconst 1, 1) := by decide +kernel
theorem dX7_kind_47 : decode cX7_kind 47 = .ok (.invokevirtual 94, 3) := by decide +kernel
theorem dX7_kind_50 : decode cX7_kind 50 = .ok (.ifCond .ne 25, 3) := by decide +kernel
theorem dX7_kind_53 : decode cX7_kind 53 = .ok (.aload_n 0, 1) := by decide +kernel
theorem dX7_kind_54 : decode cX7_kind 54 = .ok (.aload_n 0, 1) := by decide +kernel
theorem dX7_kind_55 : decode cX7_kind 55 = .ok (.getfield 87, 3) := by decide +kernel
theorem dX7_kind_58 : decode cX7_kind 58 = .ok (.bipush 8, 2) := by decide +kernel
theorem dX7_kind_60 : decode cX7_kind 60 = .ok (.if_icmp .ne 7, 3) := by decide +kernel
theorem dX7_kind_63 : decode cX7_kind 63 = .ok (.iconst 1, 1) := by decide +kernel
theorem dX7_kind_64 : decode cX7_kind 64 = .ok (.goto 4, 3) := by decide +kernel
theorem dX7_kind_67 : decode cX7_kind 67 = .ok (.iconst 0, 1) := by decide +kernel
theorem dX7_kind_68 : decode cX7_kind 68 = .ok (.iconst 2, 1) := by decide +kernel
theorem dX7_kind_69 : decode cX7_kind 69 = .ok (.invokevirtual 94, 3) := by decide +kernel
theorem dX7_kind_72 : decode cX7_kind 72 = .ok (.ifCond .eq 5, 3) := by decide +kernel
theorem dX7_kind_75 : decode cX7_kind 75 = .ok (.iconst 0, 1) := by decide +kernel
theorem dX7_kind_76 : decode cX7_kind 76 = .ok (.ireturn, 1) := by decide +kernel
theorem dX7_kind_77 : decode cX7_kind 77 = .ok (.aload_n 0, 1) := by decide +kernel
theorem dX7_kind_78 : decode cX7_kind 78 = .ok (.getfield 44, 3) := by decide +kernel
theorem dX7_kind_81 : decode cX7_kind 81 = .ok (.aload_n 0, 1) := by decide +kernel
theorem dX7_kind_82 : decode cX7_kind 82 = .ok (.getfield 87, 3) := by decide +kernel
theorem dX7_kind_85 : decode cX7_kind 85 = .ok (.aaload, 1) := by decide +kernel
theorem dX7_kind_86 : decode cX7_kind 86 = .ok (.iconst 0, 1) := by decide +kernel
theorem dX7_kind_87 : decode cX7_kind 87 = .ok (.iload_n 1, 1) := by decide +kernel
theorem dX7_kind_88 : decode cX7_kind 88 = .ok (.iastore, 1) := by decide +kernel
theorem dX7_kind_89 : decode cX7_kind 89 = .ok (.aload_n 0, 1) := by decide +kernel
theorem dX7_kind_90 : decode cX7_kind 90 = .ok (.getfield 44, 3) := by decide +kernel
theorem dX7_kind_93 : decode cX7_kind 93 = .ok (.aload_n 0, 1) := by decide +kernel
theorem dX7_kind_94 : decode cX7_kind 94 = .ok (.getfield 87, 3) := by decide +kernel
theorem dX7_kind_97 : decode cX7_kind 97 = .ok (.aaload, 1) := by decide +kernel
theorem dX7_kind_98 : decode cX7_kind 98 = .ok (.iconst 1, 1) := by decide +kernel
theorem dX7_kind_99 : decode cX7_kind 99 = .ok (.iload_n 2, 1) := by decide +kernel
theorem dX7_kind_100 : decode cX7_kind 100 = .ok (.iastore, 1) := by decide +kernel
theorem dX7_kind_101 : decode cX7_kind 101 = .ok (.aload_n 0, 1) := by decide +kernel
theorem dX7_kind_102 : decode cX7_kind 102 = .ok (.getfield 44, 3) := by decide +kernel
theorem dX7_kind_105 : decode cX7_kind 105 = .ok (.aload_n 0, 1) := by decide +kernel
theorem dX7_kind_106 : decode cX7_kind 106 = .ok (.getfield 87, 3) := by decide +kernel
theorem dX7_kind_109 : decode cX7_kind 109 = .ok (.aaload, 1) := by decide +kernel
theorem dX7_kind_110 : decode cX7_kind 110 = .ok (.iconst 2, 1) := by decide +kernel
theorem dX7_kind_111 : decode cX7_kind 111 = .ok (.iload_n 3, 1) := by decide +kernel
theorem dX7_kind_112 : decode cX7_kind 112 = .ok (.iastore, 1) := by decide +kernel
theorem dX7_kind_113 : decode cX7_kind 113 = .ok (.aload_n 0, 1) := by decide +kernel
theorem dX7_kind_114 : decode cX7_kind 114 = .ok (.getfield 44, 3) := by decide +kernel
theorem dX7_kind_117 : decode cX7_kind 117 = .ok (.aload_n 0, 1) := by decide +kernel
theorem dX7_kind_118 : decode cX7_kind 118 = .ok (.getfield 87, 3) := by decide +kernel
theorem dX7_kind_121 : decode cX7_kind 121 = .ok (.aaload, 1) := by decide +kernel
theorem dX7_kind_122 : decode cX7_kind 122 = .ok (.iconst 3, 1) := by decide +kernel
theorem dX7_kind_123 : decode cX7_kind 123 = .ok (.iload 4, 2) := by decide +kernel
theorem dX7_kind_125 : decode cX7_kind 125 = .ok (.iastore, 1) := by decide +kernel
theorem dX7_kind_126 : decode cX7_kind 126 = .ok (.aload_n 0, 1) := by decide +kernel
theorem dX7_kind_127 : decode cX7_kind 127 = .ok (.dup, 1) := by decide +kernel
theorem dX7_kind_128 : decode cX7_kind 128 = .ok (.getfield 87, 3) := by decide +kernel
theorem dX7_kind_131 : decode cX7_kind 131 = .ok (.iconst 1, 1) := by decide +kernel
theorem dX7_kind_132 : decode cX7_kind 132 = .ok (.iadd, 1) := by decide +kernel
theorem dX7_kind_133 : decode cX7_kind 133 = .ok (.putfield 87, 3) := by decide +kernel
theorem dX7_kind_136 : decode cX7_kind 136 = .ok (.aload_n 0, 1) := by decide +kernel
theorem dX7_kind_137 : decode cX7_kind 137 = .ok (.getfield 87, 3) := by decide +kernel
theorem dX7_kind_140 : decode cX7_kind 140 = .ok (.iconst 1, 1) := by decide +kernel
theorem dX7_kind_141 : decode cX7_kind 141 = .ok (.isub, 1) := by decide +kernel
theorem dX7_kind_142 : decode cX7_kind 142 = .ok (.ireturn, 1) := by decide +kernel
theorem dX7_isWithin_0 : decode cX7_isWithin 0 = .ok (.iconst 0, 1) := by decide +kernel
theorem dX7_isWithin_1 : decode cX7_isWithin 1 = .ok (.istore_n 3, 1) := by decide +kernel
theorem dX7_isWithin_2 : decode cX7_isWithin 2 = .ok (.aload_n 2, 1) := by decide +kernel
theorem dX7_isWithin_3 : decode cX7_isWithin 3 = .ok (.astore 4, 2) := by decide +kernel
theorem dX7_isWithin_5 : decode cX7_isWithin 5 = .ok (.aload 4, 2) := by decide +kernel
theorem dX7_isWithin_7 : decode cX7_isWithin 7 = .ok (.arraylength, 1) := by decide +kernel
theorem dX7_isWithin_8 : decode cX7_isWithin 8 = .ok (.istore 5, 2) := by decide +kernel
theorem dX7_isWithin_10 : decode cX7_isWithin 10 = .ok (.iconst 0, 1) := by decide +kernel
theorem dX7_isWithin_11 : decode cX7_isWithin 11 = .ok (.istore 6, 2) := by decide +kernel
theorem dX7_isWithin_13 : decode cX7_isWithin 13 = .ok (.iload 6, 2) := by decide +kernel
theorem dX7_isWithin_15 : decode cX7_isWithin 15 = .ok (.iload 5, 2) := by decide +kernel
theorem dX7_isWithin_17 : decode cX7_isWithin 17 = .ok (.if_icmp .ge 24, 3) := by decide +kernel
theorem dX7_isWithin_20 : decode cX7_isWithin 20 = .ok (.aload 4, 2) := by decide +kernel
theorem dX7_isWithin_22 : decode cX7_isWithin 22 = .ok (.iload 6, 2) := by decide +kernel
theorem dX7_isWithin_24 : decode cX7_isWithin 24 = .ok (.iaload, 1) := by decide +kernel
theorem dX7_isWithin_25 : decode cX7_isWithin 25 = .ok (.istore 7, 2) := by decide +kernel
theorem dX7_isWithin_27 : decode cX7_isWithin 27 = .ok (.iload_n 3, 1) := by decide +kernel
theorem dX7_isWithin_28 : decode cX7_isWithin 28 = .ok (.bipush 100, 2) := by decide +kernel
theorem dX7_isWithin_30 : decode cX7_isWithin 30 = .ok (.iload 7, 2) := by decide +kernel
theorem dX7_isWithin_32 : decode cX7_isWithin 32 = .ok (.isub, 1) := by decide +kernel
theorem dX7_isWithin_33 : decode cX7_isWithin 33 = .ok (.iadd, 1) := by decide +kernel
theorem dX7_isWithin_34 : decode cX7_isWithin 34 = .ok (.istore_n 3, 1) := by decide +kernel
theorem dX7_isWithin_35 : decode cX7_isWithin 35 = .ok (.iinc 6 1, 3) := by decide +kernel
theorem dX7_isWithin_38 : decode cX7_isWithin 38 = .ok (.goto (-25), 3) := by decide +kernel
theorem dX7_isWithin_41 : decode cX7_isWithin 41 = .ok (.bipush 100, 2) := by decide +kernel
theorem dX7_isWithin_43 : decode cX7_isWithin 43 = .ok (.aload_n 2, 1) := by decide +kernel
theorem dX7_isWithin_44 : decode cX7_isWithin 44 = .ok (.aload_n 0, 1) := by decide +kernel
theorem dX7_isWithin_45 : decode cX7_isWithin 45 = .ok (.getfield 44, 3) := by decide +kernel
theorem dX7_isWithin_48 : decode cX7_isWithin 48 = .ok (.iload_n 1, 1) := by decide +kernel
theorem dX7_isWithin_49 : decode cX7_isWithin 49 = .ok (.aaload, 1) := by decide +kernel
theorem dX7_isWithin_50 : decode cX7_isWithin 50 = .ok (.iconst 0, 1) := by decide +kernel
theorem dX7_isWithin_51 : decode cX7_isWithin 51 = .ok (.iaload, 1) := by decide +kernel
theorem dX7_isWithin_52 : decode cX7_isWithin 52 = .ok (.iaload, 1) := by decide +kernel
theorem dX7_isWithin_53 : decode cX7_isWithin 53 = .ok (.isub, 1) := by decide +kernel
theorem dX7_isWithin_54 : decode cX7_isWithin 54 = .ok (.aload_n 0, 1) := by decide +kernel
theorem dX7_isWithin_55 : decode cX7_isWithin 55 = .ok (.getfield 44, 3) := by decide +kernel
theorem dX7_isWithin_58 : decode cX7_isWithin 58 = .ok (.iload_n 1, 1) := by decide +kernel
theorem dX7_isWithin_59 : decode cX7_isWithin 59 = .ok (.aaload, 1) := by decide +kernel
theorem dX7_isWithin_60 : decode cX7_isWithin 60 = .ok (.iconst 1, 1) := by decide +kernel
theorem dX7_isWithin_61 : decode cX7_isWithin 61 = .ok (.iaload, 1) := by decide +kernel
theorem dX7_isWithin_62 : decode cX7_isWithin 62 = .ok (.if_icmp .lt 30, 3) := by decide +kernel
theorem dX7_isWithin_65 : decode cX7_isWithin 65 = .ok (.iload_n 3, 1) := by decide +kernel
theorem dX7_isWithin_66 : decode cX7_isWithin 66 = .ok (.aload_n 0, 1) := by decide +kernel
theorem dX7_isWithin_67 : decode cX7_isWithin 67 = .ok (.getfield 44, 3) := by decide +kernel
theorem dX7_isWithin_70 : decode cX7_isWithin 70 = .ok (.iload_n 1, 1) := by decide +kernel
theorem dX7_isWithin_71 : decode cX7_isWithin 71 = .ok (.aaload, 1) := by decide +kernel
theorem dX7_isWithin_72 : decode cX7_isWithin 72 = .ok (.iconst 2, 1) := by decide +kernel
theorem dX7_isWithin_73 : decode cX7_isWithin 73 = .ok (.iaload, 1) := by decide +kernel
theorem dX7_isWithin_74 : decode cX7_isWithin 74 = .ok (.aload_n 0, 1) := by decide +kernel
theorem dX7_isWithin_75 : decode cX7_isWithin 75 = .ok (.getfield 44, 3) := by decide +kernel
theorem dX7_isWithin_78 : decode cX7_isWithin 78 = .ok (.iload_n 1, 1) := by decide +kernel
theorem dX7_isWithin_79 : decode cX7_isWithin 79 = .ok (.aaload, 1) := by decide +kernel
theorem dX7_isWithin_80 : decode cX7_isWithin 80 = .ok (.iconst 3, 1) := by decide +kernel
theorem dX7_isWithin_81 : decode cX7_isWithin 81 = .ok (.iaload, 1) := by decide +kernel
theorem dX7_isWithin_82 : decode cX7_isWithin 82 = .ok (.invokestatic 83, 3) := by decide +kernel
theorem dX7_isWithin_85 : decode cX7_isWithin 85 = .ok (.ifCond .eq 7, 3) := by decide +kernel
theorem dX7_isWithin_88 : decode cX7_isWithin 88 = .ok (.iconst 1, 1) := by decide +kernel
theorem dX7_isWithin_89 : decode cX7_isWithin 89 = .ok (.goto 4, 3) := by decide +kernel
theorem dX7_isWithin_92 : decode cX7_isWithin 92 = .ok (.iconst 0, 1) := by decide +kernel
theorem dX7_isWithin_93 : decode cX7_isWithin 93 = .ok (.ireturn, 1) := by decide +kernel
theorem dX7_classBy_0 : decode cX7_classBy 0 = .ok (.iconst (-1), 1) := by decide +kernel
theorem dX7_classBy_1 : decode cX7_classBy 1 = .ok (.istore_n 2, 1) := by decide +kernel
theorem dX7_classBy_2 : decode cX7_classBy 2 = .ok (.aload_n 0, 1) := by decide +kernel
theorem dX7_classBy_3 : decode cX7_classBy 3 = .ok (.getfield 87, 3) := by decide +kernel
theorem dX7_classBy_6 : decode cX7_classBy 6 = .ok (.iconst 1, 1) := by decide +kernel
theorem dX7_classBy_7 : decode cX7_classBy 7 = .ok (.isub, 1) := by decide +kernel
theorem dX7_classBy_8 : decode cX7_classBy 8 = .ok (.istore_n 3, 1) := by decide +kernel
theorem dX7_classBy_9 : decode cX7_classBy 9 = .ok (.iload_n 3, 1) := by decide +kernel
theorem dX7_classBy_10 : decode cX7_classBy 10 = .ok (.ifCond .lt 24, 3) := by decide +kernel
theorem dX7_classBy_13 : decode cX7_classBy 13 = .ok (.aload_n 0, 1) := by decide +kernel
theorem dX7_classBy_14 : decode cX7_classBy 14 = .ok (.iload_n 3, 1) := by decide +kernel
theorem dX7_classBy_15 : decode cX7_classBy 15 = .ok (.aload_n 1, 1) := by decide +kernel
theorem dX7_classBy_16 : decode cX7_classBy 16 = .ok (.invokevirtual 111, 3) := by decide +kernel
theorem dX7_classBy_19 : decode cX7_classBy 19 = .ok (.ifCond .eq 7, 3) := by decide +kernel
theorem dX7_classBy_22 : decode cX7_classBy 22 = .ok (.iload_n 3, 1) := by decide +kernel
theorem dX7_classBy_23 : decode cX7_classBy 23 = .ok (.goto 4, 3) := by decide +kernel
theorem dX7_classBy_26 : decode cX7_classBy 26 = .ok (.iload_n 2, 1) := by decide +kernel
theorem dX7_classBy_27 : decode cX7_classBy 27 = .ok (.istore_n 2, 1) := by decide +kernel
theorem dX7_classBy_28 : decode cX7_classBy 28 = .ok (.iinc 3 (-1), 3) := by decide +kernel
theorem dX7_classBy_31 : decode cX7_classBy 31 = .ok (.goto (-22), 3) := by decide +kernel
theorem dX7_classBy_34 : decode cX7_classBy 34 = .ok (.iload_n 2, 1) := by decide +kernel
theorem dX7_classBy_35 : decode cX7_classBy 35 = .ok (.ireturn, 1) := by decide +kernel
theorem dX7_belongs_0 : decode cX7_belongs 0 = .ok (.aload_n 0, 1) := by decide +kernel
theorem dX7_belongs_1 : decode cX7_belongs 1 = .ok (.aload_n 0, 1) := by decide +kernel
theorem dX7_belongs_2 : decode cX7_belongs 2 = .ok (.iload_n 1, 1) := by decide +kernel
theorem dX7_belongs_3 : decode cX7_belongs 3 = .ok (.invokevirtual 98, 3) := by decide +kernel
theorem dX7_belongs_6 : decode cX7_belongs 6 = .ok (.iconst 1, 1) := by decide +kernel
theorem dX7_belongs_7 : decode cX7_belongs 7 = .ok (.invokevirtual 94, 3) := by decide +kernel
theorem dX7_belongs_10 : decode cX7_belongs 10 = .ok (.ifCond .eq 7, 3) := by decide +kernel
theorem dX7_belongs_13 : decode cX7_belongs 13 = .ok (.iconst 0, 1) := by decide +kernel
theorem dX7_belongs_14 : decode cX7_belongs 14 = .ok (.goto 13, 3) := by decide +kernel
theorem dX7_belongs_17 : decode cX7_belongs 17 = .ok (.aload_n 0, 1) := by decide +kernel
theorem dX7_belongs_18 : decode cX7_belongs 18 = .ok (.aload_n 0, 1) := by decide +kernel
theorem dX7_belongs_19 : decode cX7_belongs 19 = .ok (.getfield 15, 3) := by decide +kernel
theorem dX7_belongs_22 : decode cX7_belongs 22 = .ok (.iload_n 1, 1) := by decide +kernel
theorem dX7_belongs_23 : decode cX7_belongs 23 = .ok (.aaload, 1) := by decide +kernel
theorem dX7_belongs_24 : decode cX7_belongs 24 = .ok (.invokevirtual 115, 3) := by decide +kernel
theorem dX7_belongs_27 : decode cX7_belongs 27 = .ok (.ireturn, 1) := by decide +kernel
theorem dX7_becomes_0 : decode cX7_becomes 0 = .ok (.iconst 0, 1) := by decide +kernel
theorem dX7_becomes_1 : decode cX7_becomes 1 = .ok (.istore 4, 2) := by decide +kernel
theorem dX7_becomes_3 : decode cX7_becomes 3 = .ok (.iload 4, 2) := by decide +kernel
theorem dX7_becomes_5 : decode cX7_becomes 5 = .ok (.aload_n 0, 1) := by decide +kernel
theorem dX7_becomes_6 : decode cX7_becomes 6 = .ok (.getfield 119, 3) := by decide +kernel
theorem dX7_becomes_9 : decode cX7_becomes 9 = .ok (.if_icmp .ge 62, 3) := by decide +kernel
theorem dX7_becomes_12 : decode cX7_becomes 12 = .ok (.iload_n 2, 1) := by decide +kernel
theorem dX7_becomes_13 : decode cX7_becomes 13 = .ok (.aload_n 0, 1) := by decide +kernel
theorem dX7_becomes_14 : decode cX7_becomes 14 = .ok (.getfield 32, 3) := by decide +kernel
theorem dX7_becomes_17 : decode cX7_becomes 17 = .ok (.iload_n 1, 1) := by decide +kernel
theorem dX7_becomes_18 : decode cX7_becomes 18 = .ok (.iaload, 1) := by decide +kernel
theorem dX7_becomes_19 : decode cX7_becomes 19 = .ok (.if_icmp .eq 52, 3) := by decide +kernel
theorem dX7_becomes_22 : decode cX7_becomes 22 = .ok (.aload_n 0, 1) := by decide +kernel
theorem dX7_becomes_23 : decode cX7_becomes 23 = .ok (.getfield 65, 3) := by decide +kernel
theorem dX7_becomes_26 : decode cX7_becomes 26 = .ok (.iload 4, 2) := by decide +kernel
theorem dX7_becomes_28 : decode cX7_becomes 28 = .ok (.aaload, 1) := by decide +kernel
theorem dX7_becomes_29 : decode cX7_becomes 29 = .ok (.iload_n 1, 1) := by decide +kernel
theorem dX7_becomes_30 : decode cX7_becomes 30 = .ok (.iaload, 1) := by decide +kernel
theorem dX7_becomes_31 : decode cX7_becomes 31 = .ok (.iconst (-1), 1) := by decide +kernel
theorem dX7_becomes_32 : decode cX7_becomes 32 = .ok (.if_icmp .eq 33, 3) := by decide +kernel
theorem dX7_becomes_35 : decode cX7_becomes 35 = .ok (.aload_n 0, 1) := by decide +kernel
theorem dX7_becomes_36 : decode cX7_becomes 36 = .ok (.getfield 62, 3) := by decide +kernel
theorem dX7_becomes_39 : decode cX7_becomes 39 = .ok (.iload 4, 2) := by decide +kernel
theorem dX7_becomes_41 : decode cX7_becomes 41 = .ok (.baload, 1) := by decide +kernel
theorem dX7_becomes_42 : decode cX7_becomes 42 = .ok (.ifCond .ne 23, 3) := by decide +kernel
theorem dX7_becomes_45 : decode cX7_becomes 45 = .ok (.aload_n 0, 1) := by decide +kernel
theorem dX7_becomes_46 : decode cX7_becomes 46 = .ok (.getfield 70, 3) := by decide +kernel
theorem dX7_becomes_49 : decode cX7_becomes 49 = .ok (.iload 4, 2) := by decide +kernel
theorem dX7_becomes_51 : decode cX7_becomes 51 = .ok (.aaload, 1) := by decide +kernel
theorem dX7_becomes_52 : decode cX7_becomes 52 = .ok (.iload_n 1, 1) := by decide +kernel
theorem dX7_becomes_53 : decode cX7_becomes 53 = .ok (.iconst 1, 1) := by decide +kernel
theorem dX7_becomes_54 : decode cX7_becomes 54 = .ok (.bastore, 1) := by decide +kernel
theorem dX7_becomes_55 : decode cX7_becomes 55 = .ok (.aload_n 0, 1) := by decide +kernel
theorem dX7_becomes_56 : decode cX7_becomes 56 = .ok (.getfield 73, 3) := by decide +kernel
theorem dX7_becomes_59 : decode cX7_becomes 59 = .ok (.iload 4, 2) := by decide +kernel
theorem dX7_becomes_61 : decode cX7_becomes 61 = .ok (.aaload, 1) := by decide +kernel
theorem dX7_becomes_62 : decode cX7_becomes 62 = .ok (.iload_n 1, 1) := by decide +kernel
theorem dX7_becomes_63 : decode cX7_becomes 63 = .ok (.iconst (-1), 1) := by decide +kernel
theorem dX7_becomes_64 : decode cX7_becomes 64 = .ok (.iastore, 1) := by decide +kernel
theorem dX7_becomes_65 : decode cX7_becomes 65 = .ok (.iinc 4 1, 3) := by decide +kernel
theorem dX7_becomes_68 : decode cX7_becomes 68 = .ok (.goto (-65), 3) := by decide +kernel
theorem dX7_becomes_71 : decode cX7_becomes 71 = .ok (.aload_n 0, 1) := by decide +kernel
theorem dX7_becomes_72 : decode cX7_becomes 72 = .ok (.getfield 32, 3) := by decide +kernel
theorem dX7_becomes_75 : decode cX7_becomes 75 = .ok (.iload_n 1, 1) := by decide +kernel
theorem dX7_becomes_76 : decode cX7_becomes 76 = .ok (.iload_n 2, 1) := by decide +kernel
theorem dX7_becomes_77 : decode cX7_becomes 77 = .ok (.iastore, 1) := by decide +kernel
theorem dX7_becomes_78 : decode cX7_becomes 78 = .ok (.aload_n 0, 1) := by decide +kernel
theorem dX7_becomes_79 : decode cX7_becomes 79 = .ok (.getfield 28, 3) := by decide +kernel
theorem dX7_becomes_82 : decode cX7_becomes 82 = .ok (.iload_n 1, 1) := by decide +kernel
theorem dX7_becomes_83 : decode cX7_becomes 83 = .ok (.iload_n 2, 1) := by decide +kernel
theorem dX7_becomes_84 : decode cX7_becomes 84 = .ok (.iconst (-1), 1) := by decide +kernel
theorem dX7_becomes_85 : decode cX7_becomes 85 = .ok (.if_icmp .ne 20, 3) := by decide +kernel
theorem dX7_becomes_88 : decode cX7_becomes 88 = .ok (.iload_n 3, 1) := by decide +kernel
theorem dX7_becomes_89 : decode cX7_becomes 89 = .ok (.bipush 120, 2) := by decide +kernel
theorem dX7_becomes_91 : decode cX7_becomes 91 = .ok (.if_icmp .eq 14, 3) := by decide +kernel
theorem dX7_becomes_94 : decode cX7_becomes 94 = .ok (.iload_n 3, 1) := by decide +kernel
theorem dX7_becomes_95 : decode cX7_becomes 95 = .ok (.bipush 45, 2) := by decide +kernel
theorem dX7_becomes_97 : decode cX7_becomes 97 = .ok (.if_icmp .eq 8, 3) := by decide +kernel
theorem dX7_becomes_100 : decode cX7_becomes 100 = .ok (.bipush 101, 2) := by decide +kernel
theorem dX7_becomes_102 : decode cX7_becomes 102 = .ok (.goto 4, 3) := by decide +kernel
theorem dX7_becomes_105 : decode cX7_becomes 105 = .ok (.iload_n 3, 1) := by decide +kernel
theorem dX7_becomes_106 : decode cX7_becomes 106 = .ok (.castore, 1) := by decide +kernel
theorem dX7_becomes_107 : decode cX7_becomes 107 = .ok (.aload_n 0, 1) := by decide +kernel
theorem dX7_becomes_108 : decode cX7_becomes 108 = .ok (.getfield 35, 3) := by decide +kernel
theorem dX7_becomes_111 : decode cX7_becomes 111 = .ok (.iload_n 1, 1) := by decide +kernel
theorem dX7_becomes_112 : decode cX7_becomes 112 = .ok (.iconst (-1), 1) := by decide +kernel
theorem dX7_becomes_113 : decode cX7_becomes 113 = .ok (.iastore, 1) := by decide +kernel
theorem dX7_becomes_114 : decode cX7_becomes 114 = .ok (.aload_n 0, 1) := by decide +kernel
theorem dX7_becomes_115 : decode cX7_becomes 115 = .ok (.getfield 38, 3) := by decide +kernel
theorem dX7_becomes_118 : decode cX7_becomes 118 = .ok (.iload_n 1, 1) := by decide +kernel
theorem dX7_becomes_119 : decode cX7_becomes 119 = .ok (.dup2, 1) := by decide +kernel
theorem dX7_becomes_120 : decode cX7_becomes 120 = .ok (.baload, 1) := by decide +kernel
theorem dX7_becomes_121 : decode cX7_becomes 121 = .ok (.iload_n 2, 1) := by decide +kernel
theorem dX7_becomes_122 : decode cX7_becomes 122 = .ok (.iconst (-1), 1) := by decide +kernel
theorem dX7_becomes_123 : decode cX7_becomes 123 = .ok (.if_icmp .eq 7, 3) := by decide +kernel
theorem dX7_becomes_126 : decode cX7_becomes 126 = .ok (.iconst 1, 1) := by decide +kernel
theorem dX7_becomes_127 : decode cX7_becomes 127 = .ok (.goto 4, 3) := by decide +kernel
theorem dX7_becomes_130 : decode cX7_becomes 130 = .ok (.iconst 0, 1) := by decide +kernel
theorem dX7_becomes_131 : decode cX7_becomes 131 = .ok (.iand, 1) := by decide +kernel
theorem dX7_becomes_132 : decode cX7_becomes 132 = .ok (.bastore, 1) := by decide +kernel
theorem dX7_becomes_133 : decode cX7_becomes 133 = .ok (.return_, 1) := by decide +kernel
theorem dX7_test_0 : decode cX7_test 0 = .ok (.aload_n 0, 1) := by decide +kernel
theorem dX7_test_1 : decode cX7_test 1 = .ok (.aload_n 0, 1) := by decide +kernel
theorem dX7_test_2 : decode cX7_test 2 = .ok (.iload_n 1, 1) := by decide +kernel
theorem dX7_test_3 : decode cX7_test 3 = .ok (.invokevirtual 98, 3) := by decide +kernel
theorem dX7_test_6 : decode cX7_test 6 = .ok (.ifCond .ne 31, 3) := by decide +kernel
theorem dX7_test_9 : decode cX7_test 9 = .ok (.iload_n 2, 1) := by decide +kernel
theorem dX7_test_10 : decode cX7_test 10 = .ok (.iconst 0, 1) := by decide +kernel
theorem dX7_test_11 : decode cX7_test 11 = .ok (.aload_n 0, 1) := by decide +kernel
theorem dX7_test_12 : decode cX7_test 12 = .ok (.getfield 108, 3) := by decide +kernel
theorem dX7_test_15 : decode cX7_test 15 = .ok (.iconst 1, 1) := by decide +kernel
theorem dX7_test_16 : decode cX7_test 16 = .ok (.isub, 1) := by decide +kernel
theorem dX7_test_17 : decode cX7_test 17 = .ok (.invokestatic 83, 3) := by decide +kernel
theorem dX7_test_20 : decode cX7_test 20 = .ok (.ifCond .eq 17, 3) := by decide +kernel
theorem dX7_test_23 : decode cX7_test 23 = .ok (.iload_n 3, 1) := by decide +kernel
theorem dX7_test_24 : decode cX7_test 24 = .ok (.iconst 0, 1) := by decide +kernel
theorem dX7_test_25 : decode cX7_test 25 = .ok (.aload_n 0, 1) := by decide +kernel
theorem dX7_test_26 : decode cX7_test 26 = .ok (.getfield 108, 3) := by decide +kernel
theorem dX7_test_29 : decode cX7_test 29 = .ok (.iconst 1, 1) := by decide +kernel
theorem dX7_test_30 : decode cX7_test 30 = .ok (.isub, 1) := by decide +kernel
theorem dX7_test_31 : decode cX7_test 31 = .ok (.invokestatic 83, 3) := by decide +kernel
theorem dX7_test_34 : decode cX7_test 34 = .ok (.ifCond .ne 7, 3) := by decide +kernel
theorem dX7_test_37 : decode cX7_test 37 = .ok (.iconst 1, 1) := by decide +kernel
theorem dX7_test_38 : decode cX7_test 38 = .ok (.goto 4, 3) := by decide +kernel
theorem dX7_test_41 : decode cX7_test 41 = .ok (.iconst 0, 1) := by decide +kernel
theorem dX7_test_42 : decode cX7_test 42 = .ok (.iconst 1, 1) := by decide +kernel
theorem dX7_test_43 : decode cX7_test 43 = .ok (.invokevirtual 94, 3) := by decide +kernel
theorem dX7_test_46 : decode cX7_test 46 = .ok (.ifCond .eq 6, 3) := by decide +kernel
theorem dX7_test_49 : decode cX7_test 49 = .ok (.bipush 32, 2) := by decide +kernel
theorem dX7_test_51 : decode cX7_test 51 = .ok (.ireturn, 1) := by decide +kernel
theorem dX7_test_52 : decode cX7_test 52 = .ok (.aload_n 0, 1) := by decide +kernel
theorem dX7_test_53 : decode cX7_test 53 = .ok (.getfield 41, 3) := by decide +kernel
theorem dX7_test_56 : decode cX7_test 56 = .ok (.iload_n 2, 1) := by decide +kernel
theorem dX7_test_57 : decode cX7_test 57 = .ok (.iaload, 1) := by decide +kernel
theorem dX7_test_58 : decode cX7_test 58 = .ok (.aload_n 0, 1) := by decide +kernel
theorem dX7_test_59 : decode cX7_test 59 = .ok (.getfield 41, 3) := by decide +kernel
theorem dX7_test_62 : decode cX7_test 62 = .ok (.iload_n 3, 1) := by decide +kernel
theorem dX7_test_63 : decode cX7_test 63 = .ok (.iaload, 1) := by decide +kernel
theorem dX7_test_64 : decode cX7_test 64 = .ok (.if_icmp .eq 37, 3) := by decide +kernel
theorem dX7_test_67 : decode cX7_test 67 = .ok (.aload_n 0, 1) := by decide +kernel
theorem dX7_test_68 : decode cX7_test 68 = .ok (.getfield 41, 3) := by decide +kernel
theorem dX7_test_71 : decode cX7_test 71 = .ok (.iload_n 2, 1) := by decide +kernel
theorem dX7_test_72 : decode cX7_test 72 = .ok (.iaload, 1) := by decide +kernel
theorem dX7_test_73 : decode cX7_test 73 = .ok (.aload_n 0, 1) := by decide +kernel
theorem dX7_test_74 : decode cX7_test 74 = .ok (.getfield 9, 3) := by decide +kernel
theorem dX7_test_77 : decode cX7_test 77 = .ok (.iload_n 1, 1) := by decide +kernel
theorem dX7_test_78 : decode cX7_test 78 = .ok (.iaload, 1) := by decide +kernel
theorem dX7_test_79 : decode cX7_test 79 = .ok (.if_icmp .eq 22, 3) := by decide +kernel
theorem dX7_test_82 : decode cX7_test 82 = .ok (.aload_n 0, 1) := by decide +kernel
theorem dX7_test_83 : decode cX7_test 83 = .ok (.getfield 41, 3) := by decide +kernel
theorem dX7_test_86 : decode cX7_test 86 = .ok (.iload_n 3, 1) := by decide +kernel
theorem dX7_test_87 : decode cX7_test 87 = .ok (.iaload, 1) := by decide +kernel
theorem dX7_test_88 : decode cX7_test 88 = .ok (.aload_n 0, 1) := by decide +kernel
theorem dX7_test_89 : decode cX7_test 89 = .ok (.getfield 9, 3) := by decide +kernel
theorem dX7_test_92 : decode cX7_test 92 = .ok (.iload_n 1, 1) := by decide +kernel
theorem dX7_test_93 : decode cX7_test 93 = .ok (.iaload, 1) := by decide +kernel
theorem dX7_test_94 : decode cX7_test 94 = .ok (.if_icmp .eq 7, 3) := by decide +kernel
theorem dX7_test_97 : decode cX7_test 97 = .ok (.iconst 1, 1) := by decide +kernel
theorem dX7_test_98 : decode cX7_test 98 = .ok (.goto 4, 3) := by decide +kernel
theorem dX7_test_101 : decode cX7_test 101 = .ok (.iconst 0, 1) := by decide +kernel
theorem dX7_test_102 : decode cX7_test 102 = .ok (.istore 4, 2) := by decide +kernel
theorem dX7_test_104 : decode cX7_test 104 = .ok (.aload_n 0, 1) := by decide +kernel
theorem dX7_test_105 : decode cX7_test 105 = .ok (.iload 4, 2) := by decide +kernel
theorem dX7_test_107 : decode cX7_test 107 = .ok (.ifCond .ne 7, 3) := by decide +kernel
theorem dX7_test_110 : decode cX7_test 110 = .ok (.iconst 1, 1) := by decide +kernel
theorem dX7_test_111 : decode cX7_test 111 = .ok (.goto 4, 3) := by decide +kernel
theorem dX7_test_114 : decode cX7_test 114 = .ok (.iconst 0, 1) := by decide +kernel
theorem dX7_test_115 : decode cX7_test 115 = .ok (.iconst 2, 1) := by decide +kernel
theorem dX7_test_116 : decode cX7_test 116 = .ok (.invokevirtual 94, 3) := by decide +kernel
theorem dX7_test_119 : decode cX7_test 119 = .ok (.ifCond .ne 27, 3) := by decide +kernel
theorem dX7_test_122 : decode cX7_test 122 = .ok (.aload_n 0, 1) := by decide +kernel
theorem dX7_test_123 : decode cX7_test 123 = .ok (.aload_n 0, 1) := by decide +kernel
theorem dX7_test_124 : decode cX7_test 124 = .ok (.getfield 28, 3) := by decide +kernel
theorem dX7_test_127 : decode cX7_test 127 = .ok (.iload_n 1, 1) := by decide +kernel
theorem dX7_test_128 : decode cX7_test 128 = .ok (.caload, 1) := by decide +kernel
theorem dX7_test_129 : decode cX7_test 129 = .ok (.bipush 120, 2) := by decide +kernel
theorem dX7_test_131 : decode cX7_test 131 = .ok (.if_icmp .ne 7, 3) := by decide +kernel
theorem dX7_test_134 : decode cX7_test 134 = .ok (.iconst 1, 1) := by decide +kernel
theorem dX7_test_135 : decode cX7_test 135 = .ok (.goto 4, 3) := by decide +kernel
theorem dX7_test_138 : decode cX7_test 138 = .ok (.iconst 0, 1) := by decide +kernel
theorem dX7_test_139 : decode cX7_test 139 = .ok (.iconst 3, 1) := by decide +kernel
theorem dX7_test_140 : decode cX7_test 140 = .ok (.invokevirtual 94, 3) := by decide +kernel
theorem dX7_test_143 : decode cX7_test 143 = .ok (.ifCond .eq 6, 3) := by decide +kernel
theorem dX7_test_146 : decode cX7_test 146 = .ok (.bipush 32, 2) := by decide +kernel
theorem dX7_test_148 : decode cX7_test 148 = .ok (.ireturn, 1) := by decide +kernel
theorem dX7_test_149 : decode cX7_test 149 = .ok (.iconst 0, 1) := by decide +kernel
theorem dX7_test_150 : decode cX7_test 150 = .ok (.istore 5, 2) := by decide +kernel
theorem dX7_test_152 : decode cX7_test 152 = .ok (.iload 5, 2) := by decide +kernel
theorem dX7_test_154 : decode cX7_test 154 = .ok (.iconst 5, 1) := by decide +kernel
theorem dX7_test_155 : decode cX7_test 155 = .ok (.if_icmp .ge 25, 3) := by decide +kernel
theorem dX7_test_158 : decode cX7_test 158 = .ok (.aload_n 0, 1) := by decide +kernel
theorem dX7_test_159 : decode cX7_test 159 = .ok (.getfield 21, 3) := by decide +kernel
theorem dX7_test_162 : decode cX7_test 162 = .ok (.iload_n 1, 1) := by decide +kernel
theorem dX7_test_163 : decode cX7_test 163 = .ok (.aaload, 1) := by decide +kernel
theorem dX7_test_164 : decode cX7_test 164 = .ok (.iload 5, 2) := by decide +kernel
theorem dX7_test_166 : decode cX7_test 166 = .ok (.aload_n 0, 1) := by decide +kernel
theorem dX7_test_167 : decode cX7_test 167 = .ok (.iload_n 1, 1) := by decide +kernel
theorem dX7_test_168 : decode cX7_test 168 = .ok (.iload 5, 2) := by decide +kernel
theorem dX7_test_170 : decode cX7_test 170 = .ok (.invokevirtual 104, 3) := by decide +kernel
theorem dX7_test_173 : decode cX7_test 173 = .ok (.iastore, 1) := by decide +kernel
theorem dX7_test_174 : decode cX7_test 174 = .ok (.iinc 5 1, 3) := by decide +kernel
theorem dX7_test_177 : decode cX7_test 177 = .ok (.goto (-25), 3) := by decide +kernel
theorem dX7_test_180 : decode cX7_test 180 = .ok (.aload_n 0, 1) := by decide +kernel
theorem dX7_test_181 : decode cX7_test 181 = .ok (.getfield 24, 3) := by decide +kernel
theorem dX7_test_184 : decode cX7_test 184 = .ok (.iload_n 1, 1) := by decide +kernel
theorem dX7_test_185 : decode cX7_test 185 = .ok (.iconst 1, 1) := by decide +kernel
theorem dX7_test_186 : decode cX7_test 186 = .ok (.bastore, 1) := by decide +kernel
theorem dX7_test_187 : decode cX7_test 187 = .ok (.aload_n 0, 1) := by decide +kernel
theorem dX7_test_188 : decode cX7_test 188 = .ok (.iload_n 1, 1) := by decide +kernel
theorem dX7_test_189 : decode cX7_test 189 = .ok (.aload_n 0, 1) := by decide +kernel
theorem dX7_test_190 : decode cX7_test 190 = .ok (.aload_n 0, 1) := by decide +kernel
theorem dX7_test_191 : decode cX7_test 191 = .ok (.getfield 21, 3) := by decide +kernel
theorem dX7_test_194 : decode cX7_test 194 = .ok (.iload_n 1, 1) := by decide +kernel
theorem dX7_test_195 : decode cX7_test 195 = .ok (.aaload, 1) := by decide +kernel
theorem dX7_test_196 : decode cX7_test 196 = .ok (.invokevirtual 115, 3) := by decide +kernel
theorem dX7_test_199 : decode cX7_test 199 = .ok (.bipush 110, 2) := by decide +kernel
theorem dX7_test_201 : decode cX7_test 201 = .ok (.invokevirtual 122, 3) := by decide +kernel
theorem dX7_test_204 : decode cX7_test 204 = .ok (.aload_n 0, 1) := by decide +kernel
theorem dX7_test_205 : decode cX7_test 205 = .ok (.getfield 28, 3) := by decide +kernel
theorem dX7_test_208 : decode cX7_test 208 = .ok (.iload_n 1, 1) := by decide +kernel
theorem dX7_test_209 : decode cX7_test 209 = .ok (.caload, 1) := by decide +kernel
theorem dX7_test_210 : decode cX7_test 210 = .ok (.ireturn, 1) := by decide +kernel
theorem dX7_status_0 : decode cX7_status 0 = .ok (.aload_n 0, 1) := by decide +kernel
theorem dX7_status_1 : decode cX7_status 1 = .ok (.aload_n 0, 1) := by decide +kernel
theorem dX7_status_2 : decode cX7_status 2 = .ok (.iload_n 1, 1) := by decide +kernel
theorem dX7_status_3 : decode cX7_status 3 = .ok (.invokevirtual 98, 3) := by decide +kernel
theorem dX7_status_6 : decode cX7_status 6 = .ok (.iconst 1, 1) := by decide +kernel
theorem dX7_status_7 : decode cX7_status 7 = .ok (.invokevirtual 94, 3) := by decide +kernel
theorem dX7_status_10 : decode cX7_status 10 = .ok (.ifCond .eq 8, 3) := by decide +kernel
theorem dX7_status_13 : decode cX7_status 13 = .ok (.bipush 32, 2) := by decide +kernel
theorem dX7_status_15 : decode cX7_status 15 = .ok (.goto 9, 3) := by decide +kernel
theorem dX7_status_18 : decode cX7_status 18 = .ok (.aload_n 0, 1) := by decide +kernel
theorem dX7_status_19 : decode cX7_status 19 = .ok (.getfield 28, 3) := by decide +kernel
theorem dX7_status_22 : decode cX7_status 22 = .ok (.iload_n 1, 1) := by decide +kernel
theorem dX7_status_23 : decode cX7_status 23 = .ok (.caload, 1) := by decide +kernel
theorem dX7_status_24 : decode cX7_status 24 = .ok (.ireturn, 1) := by decide +kernel
theorem dX7_classOf_0 : decode cX7_classOf 0 = .ok (.aload_n 0, 1) := by decide +kernel
theorem dX7_classOf_1 : decode cX7_classOf 1 = .ok (.aload_n 0, 1) := by decide +kernel
theorem dX7_classOf_2 : decode cX7_classOf 2 = .ok (.iload_n 1, 1) := by decide +kernel
theorem dX7_classOf_3 : decode cX7_classOf 3 = .ok (.invokevirtual 98, 3) := by decide +kernel
theorem dX7_classOf_6 : decode cX7_classOf 6 = .ok (.iconst 1, 1) := by decide +kernel
theorem dX7_classOf_7 : decode cX7_classOf 7 = .ok (.invokevirtual 94, 3) := by decide +kernel
theorem dX7_classOf_10 : decode cX7_classOf 10 = .ok (.ifCond .eq 7, 3) := by decide +kernel
theorem dX7_classOf_13 : decode cX7_classOf 13 = .ok (.iconst 0, 1) := by decide +kernel
theorem dX7_classOf_14 : decode cX7_classOf 14 = .ok (.goto 9, 3) := by decide +kernel
theorem dX7_classOf_17 : decode cX7_classOf 17 = .ok (.aload_n 0, 1) := by decide +kernel
theorem dX7_classOf_18 : decode cX7_classOf 18 = .ok (.getfield 32, 3) := by decide +kernel
theorem dX7_classOf_21 : decode cX7_classOf 21 = .ok (.iload_n 1, 1) := by decide +kernel
theorem dX7_classOf_22 : decode cX7_classOf 22 = .ok (.iaload, 1) := by decide +kernel
theorem dX7_classOf_23 : decode cX7_classOf 23 = .ok (.ireturn, 1) := by decide +kernel
theorem dX7_finds_0 : decode cX7_finds 0 = .ok (.iconst 0, 1) := by decide +kernel
theorem dX7_finds_1 : decode cX7_finds 1 = .ok (.istore_n 2, 1) := by decide +kernel
theorem dX7_finds_2 : decode cX7_finds 2 = .ok (.iconst 0, 1) := by decide +kernel
theorem dX7_finds_3 : decode cX7_finds 3 = .ok (.istore_n 3, 1) := by decide +kernel
theorem dX7_finds_4 : decode cX7_finds 4 = .ok (.iload_n 3, 1) := by decide +kernel
theorem dX7_finds_5 : decode cX7_finds 5 = .ok (.iconst 5, 1) := by decide +kernel
theorem dX7_finds_6 : decode cX7_finds 6 = .ok (.if_icmp .ge 55, 3) := by decide +kernel
theorem dX7_finds_9 : decode cX7_finds 9 = .ok (.iload_n 2, 1) := by decide +kernel
theorem dX7_finds_10 : decode cX7_finds 10 = .ok (.aload_n 0, 1) := by decide +kernel
theorem dX7_finds_11 : decode cX7_finds 11 = .ok (.getfield 15, 3) := by decide +kernel
theorem dX7_finds_14 : decode cX7_finds 14 = .ok (.iload_n 1, 1) := by decide +kernel
theorem dX7_finds_15 : decode cX7_finds 15 = .ok (.aaload, 1) := by decide +kernel
theorem dX7_finds_16 : decode cX7_finds 16 = .ok (.iload_n 3, 1) := by decide +kernel
theorem dX7_finds_17 : decode cX7_finds 17 = .ok (.iaload, 1) := by decide +kernel
theorem dX7_finds_18 : decode cX7_finds 18 = .ok (.aload_n 0, 1) := by decide +kernel
theorem dX7_finds_19 : decode cX7_finds 19 = .ok (.getfield 21, 3) := by decide +kernel
theorem dX7_finds_22 : decode cX7_finds 22 = .ok (.iload_n 1, 1) := by decide +kernel
theorem dX7_finds_23 : decode cX7_finds 23 = .ok (.aaload, 1) := by decide +kernel
theorem dX7_finds_24 : decode cX7_finds 24 = .ok (.iload_n 3, 1) := by decide +kernel
theorem dX7_finds_25 : decode cX7_finds 25 = .ok (.iaload, 1) := by decide +kernel
theorem dX7_finds_26 : decode cX7_finds 26 = .ok (.bipush 20, 2) := by decide +kernel
theorem dX7_finds_28 : decode cX7_finds 28 = .ok (.iadd, 1) := by decide +kernel
theorem dX7_finds_29 : decode cX7_finds 29 = .ok (.if_icmp .le 7, 3) := by decide +kernel
theorem dX7_finds_32 : decode cX7_finds 32 = .ok (.iconst 1, 1) := by decide +kernel
theorem dX7_finds_33 : decode cX7_finds 33 = .ok (.goto 4, 3) := by decide +kernel
theorem dX7_finds_36 : decode cX7_finds 36 = .ok (.iconst 0, 1) := by decide +kernel
theorem dX7_finds_37 : decode cX7_finds 37 = .ok (.ior, 1) := by decide +kernel
theorem dX7_finds_38 : decode cX7_finds 38 = .ok (.istore_n 2, 1) := by decide +kernel
theorem dX7_finds_39 : decode cX7_finds 39 = .ok (.aload_n 0, 1) := by decide +kernel
theorem dX7_finds_40 : decode cX7_finds 40 = .ok (.getfield 21, 3) := by decide +kernel
theorem dX7_finds_43 : decode cX7_finds 43 = .ok (.iload_n 1, 1) := by decide +kernel
theorem dX7_finds_44 : decode cX7_finds 44 = .ok (.aaload, 1) := by decide +kernel
theorem dX7_finds_45 : decode cX7_finds 45 = .ok (.iload_n 3, 1) := by decide +kernel
theorem dX7_finds_46 : decode cX7_finds 46 = .ok (.aload_n 0, 1) := by decide +kernel
theorem dX7_finds_47 : decode cX7_finds 47 = .ok (.getfield 15, 3) := by decide +kernel
theorem dX7_finds_50 : decode cX7_finds 50 = .ok (.iload_n 1, 1) := by decide +kernel
theorem dX7_finds_51 : decode cX7_finds 51 = .ok (.aaload, 1) := by decide +kernel
theorem dX7_finds_52 : decode cX7_finds 52 = .ok (.iload_n 3, 1) := by decide +kernel
theorem dX7_finds_53 : decode cX7_finds 53 = .ok (.iaload, 1) := by decide +kernel
theorem dX7_finds_54 : decode cX7_finds 54 = .ok (.iastore, 1) := by decide +kernel
theorem dX7_finds_55 : decode cX7_finds 55 = .ok (.iinc 3 1, 3) := by decide +kernel
theorem dX7_finds_58 : decode cX7_finds 58 = .ok (.goto (-54), 3) := by decide +kernel
theorem dX7_finds_61 : decode cX7_finds 61 = .ok (.aload_n 0, 1) := by decide +kernel
theorem dX7_finds_62 : decode cX7_finds 62 = .ok (.iload_n 1, 1) := by decide +kernel
theorem dX7_finds_63 : decode cX7_finds 63 = .ok (.iload_n 2, 1) := by decide +kernel
theorem dX7_finds_64 : decode cX7_finds 64 = .ok (.ifCond .eq 7, 3) := by decide +kernel
theorem dX7_finds_67 : decode cX7_finds 67 = .ok (.iconst (-1), 1) := by decide +kernel
theorem dX7_finds_68 : decode cX7_finds 68 = .ok (.goto 13, 3) := by decide +kernel
theorem dX7_finds_71 : decode cX7_finds 71 = .ok (.aload_n 0, 1) := by decide +kernel
theorem dX7_finds_72 : decode cX7_finds 72 = .ok (.aload_n 0, 1) := by decide +kernel
theorem dX7_finds_73 : decode cX7_finds 73 = .ok (.getfield 21, 3) := by decide +kernel
theorem dX7_finds_76 : decode cX7_finds 76 = .ok (.iload_n 1, 1) := by decide +kernel
theorem dX7_finds_77 : decode cX7_finds 77 = .ok (.aaload, 1) := by decide +kernel
theorem dX7_finds_78 : decode cX7_finds 78 = .ok (.invokevirtual 115, 3) := by decide +kernel
theorem dX7_finds_81 : decode cX7_finds 81 = .ok (.iload_n 2, 1) := by decide +kernel
theorem dX7_finds_82 : decode cX7_finds 82 = .ok (.ifCond .eq 8, 3) := by decide +kernel
theorem dX7_finds_85 : decode cX7_finds 85 = .ok (.bipush 120, 2) := by decide +kernel
theorem dX7_finds_87 : decode cX7_finds 87 = .ok (.goto 5, 3) := by decide +kernel
theorem dX7_finds_90 : decode cX7_finds 90 = .ok (.bipush 99, 2) := by decide +kernel
theorem dX7_finds_92 : decode cX7_finds 92 = .ok (.invokevirtual 122, 3) := by decide +kernel
theorem dX7_finds_95 : decode cX7_finds 95 = .ok (.aload_n 0, 1) := by decide +kernel
theorem dX7_finds_96 : decode cX7_finds 96 = .ok (.getfield 35, 3) := by decide +kernel
theorem dX7_finds_99 : decode cX7_finds 99 = .ok (.iload_n 1, 1) := by decide +kernel
theorem dX7_finds_100 : decode cX7_finds 100 = .ok (.iload_n 2, 1) := by decide +kernel
theorem dX7_finds_101 : decode cX7_finds 101 = .ok (.ifCond .eq 12, 3) := by decide +kernel
theorem dX7_finds_104 : decode cX7_finds 104 = .ok (.aload_n 0, 1) := by decide +kernel
theorem dX7_finds_105 : decode cX7_finds 105 = .ok (.getfield 126, 3) := by decide +kernel
theorem dX7_finds_108 : decode cX7_finds 108 = .ok (.iconst 2, 1) := by decide +kernel
theorem dX7_finds_109 : decode cX7_finds 109 = .ok (.iadd, 1) := by decide +kernel
theorem dX7_finds_110 : decode cX7_finds 110 = .ok (.goto 4, 3) := by decide +kernel
theorem dX7_finds_113 : decode cX7_finds 113 = .ok (.iconst (-1), 1) := by decide +kernel
theorem dX7_finds_114 : decode cX7_finds 114 = .ok (.iastore, 1) := by decide +kernel
theorem dX7_finds_115 : decode cX7_finds 115 = .ok (.return_, 1) := by decide +kernel
theorem dX7_watch_0 : decode cX7_watch 0 = .ok (.aload_n 0, 1) := by decide +kernel
theorem dX7_watch_1 : decode cX7_watch 1 = .ok (.aload_n 0, 1) := by decide +kernel
theorem dX7_watch_2 : decode cX7_watch 2 = .ok (.iload_n 1, 1) := by decide +kernel
theorem dX7_watch_3 : decode cX7_watch 3 = .ok (.invokevirtual 98, 3) := by decide +kernel
theorem dX7_watch_6 : decode cX7_watch 6 = .ok (.iconst 1, 1) := by decide +kernel
theorem dX7_watch_7 : decode cX7_watch 7 = .ok (.invokevirtual 94, 3) := by decide +kernel
theorem dX7_watch_10 : decode cX7_watch 10 = .ok (.ifCond .eq 6, 3) := by decide +kernel
theorem dX7_watch_13 : decode cX7_watch 13 = .ok (.bipush 32, 2) := by decide +kernel
theorem dX7_watch_15 : decode cX7_watch 15 = .ok (.ireturn, 1) := by decide +kernel
theorem dX7_watch_16 : decode cX7_watch 16 = .ok (.iconst 0, 1) := by decide +kernel
theorem dX7_watch_17 : decode cX7_watch 17 = .ok (.istore_n 2, 1) := by decide +kernel
theorem dX7_watch_18 : decode cX7_watch 18 = .ok (.iconst 0, 1) := by decide +kernel
theorem dX7_watch_19 : decode cX7_watch 19 = .ok (.istore_n 3, 1) := by decide +kernel
theorem dX7_watch_20 : decode cX7_watch 20 = .ok (.iload_n 3, 1) := by decide +kernel
theorem dX7_watch_21 : decode cX7_watch 21 = .ok (.aload_n 0, 1) := by decide +kernel
theorem dX7_watch_22 : decode cX7_watch 22 = .ok (.getfield 119, 3) := by decide +kernel
theorem dX7_watch_25 : decode cX7_watch 25 = .ok (.if_icmp .ge 29, 3) := by decide +kernel
theorem dX7_watch_28 : decode cX7_watch 28 = .ok (.iload_n 2, 1) := by decide +kernel
theorem dX7_watch_29 : decode cX7_watch 29 = .ok (.aload_n 0, 1) := by decide +kernel
theorem dX7_watch_30 : decode cX7_watch 30 = .ok (.getfield 73, 3) := by decide +kernel
theorem dX7_watch_33 : decode cX7_watch 33 = .ok (.iload_n 3, 1) := by decide +kernel
theorem dX7_watch_34 : decode cX7_watch 34 = .ok (.aaload, 1) := by decide +kernel
theorem dX7_watch_35 : decode cX7_watch 35 = .ok (.iload_n 1, 1) := by decide +kernel
theorem dX7_watch_36 : decode cX7_watch 36 = .ok (.iaload, 1) := by decide +kernel
theorem dX7_watch_37 : decode cX7_watch 37 = .ok (.iconst (-1), 1) := by decide +kernel
theorem dX7_watch_38 : decode cX7_watch 38 = .ok (.if_icmp .eq 7, 3) := by decide +kernel
theorem dX7_watch_41 : decode cX7_watch 41 = .ok (.iconst 1, 1) := by decide +kernel
theorem dX7_watch_42 : decode cX7_watch 42 = .ok (.goto 4, 3) := by decide +kernel
theorem dX7_watch_45 : decode cX7_watch 45 = .ok (.iconst 0, 1) := by decide +kernel
theorem dX7_watch_46 : decode cX7_watch 46 = .ok (.ior, 1) := by decide +kernel
theorem dX7_watch_47 : decode cX7_watch 47 = .ok (.istore_n 2, 1) := by decide +kernel
theorem dX7_watch_48 : decode cX7_watch 48 = .ok (.iinc 3 1, 3) := by decide +kernel
theorem dX7_watch_51 : decode cX7_watch 51 = .ok (.goto (-31), 3) := by decide +kernel
theorem dX7_watch_54 : decode cX7_watch 54 = .ok (.aload_n 0, 1) := by decide +kernel
theorem dX7_watch_55 : decode cX7_watch 55 = .ok (.aload_n 0, 1) := by decide +kernel
theorem dX7_watch_56 : decode cX7_watch 56 = .ok (.getfield 28, 3) := by decide +kernel
theorem dX7_watch_59 : decode cX7_watch 59 = .ok (.iload_n 1, 1) := by decide +kernel
theorem dX7_watch_60 : decode cX7_watch 60 = .ok (.caload, 1) := by decide +kernel
theorem dX7_watch_61 : decode cX7_watch 61 = .ok (.bipush 110, 2) := by decide +kernel
theorem dX7_watch_63 : decode cX7_watch 63 = .ok (.if_icmp .eq 14, 3) := by decide +kernel
theorem dX7_watch_66 : decode cX7_watch 66 = .ok (.aload_n 0, 1) := by decide +kernel
theorem dX7_watch_67 : decode cX7_watch 67 = .ok (.getfield 28, 3) := by decide +kernel
theorem dX7_watch_70 : decode cX7_watch 70 = .ok (.iload_n 1, 1) := by decide +kernel
theorem dX7_watch_71 : decode cX7_watch 71 = .ok (.caload, 1) := by decide +kernel
theorem dX7_watch_72 : decode cX7_watch 72 = .ok (.bipush 114, 2) := by decide +kernel
theorem dX7_watch_74 : decode cX7_watch 74 = .ok (.if_icmp .ne 7, 3) := by decide +kernel
theorem dX7_watch_77 : decode cX7_watch 77 = .ok (.iload_n 2, 1) := by decide +kernel
theorem dX7_watch_78 : decode cX7_watch 78 = .ok (.ifCond .ne 7, 3) := by decide +kernel
theorem dX7_watch_81 : decode cX7_watch 81 = .ok (.iconst 1, 1) := by decide +kernel
theorem dX7_watch_82 : decode cX7_watch 82 = .ok (.goto 4, 3) := by decide +kernel
theorem dX7_watch_85 : decode cX7_watch 85 = .ok (.iconst 0, 1) := by decide +kernel
theorem dX7_watch_86 : decode cX7_watch 86 = .ok (.iconst 2, 1) := by decide +kernel
theorem dX7_watch_87 : decode cX7_watch 87 = .ok (.invokevirtual 94, 3) := by decide +kernel
theorem dX7_watch_90 : decode cX7_watch 90 = .ok (.ifCond .eq 6, 3) := by decide +kernel
theorem dX7_watch_93 : decode cX7_watch 93 = .ok (.bipush 32, 2) := by decide +kernel
theorem dX7_watch_95 : decode cX7_watch 95 = .ok (.ireturn, 1) := by decide +kernel
theorem dX7_watch_96 : decode cX7_watch 96 = .ok (.aload_n 0, 1) := by decide +kernel
theorem dX7_watch_97 : decode cX7_watch 97 = .ok (.iload_n 1, 1) := by decide +kernel
theorem dX7_watch_98 : decode cX7_watch 98 = .ok (.invokevirtual 129, 3) := by decide +kernel
theorem dX7_watch_101 : decode cX7_watch 101 = .ok (.aload_n 0, 1) := by decide +kernel
theorem dX7_watch_102 : decode cX7_watch 102 = .ok (.getfield 28, 3) := by decide +kernel
theorem dX7_watch_105 : decode cX7_watch 105 = .ok (.iload_n 1, 1) := by decide +kernel
theorem dX7_watch_106 : decode cX7_watch 106 = .ok (.caload, 1) := by decide +kernel
theorem dX7_watch_107 : decode cX7_watch 107 = .ok (.ireturn, 1) := by decide +kernel
theorem dX7_hasClass_0 : decode cX7_hasClass 0 = .ok (.aload_n 0, 1) := by decide +kernel
theorem dX7_hasClass_1 : decode cX7_hasClass 1 = .ok (.getfield 28, 3) := by decide +kernel
theorem dX7_hasClass_4 : decode cX7_hasClass 4 = .ok (.iload_n 1, 1) := by decide +kernel
theorem dX7_hasClass_5 : decode cX7_hasClass 5 = .ok (.caload, 1) := by decide +kernel
theorem dX7_hasClass_6 : decode cX7_hasClass 6 = .ok (.bipush 110, 2) := by decide +kernel
theorem dX7_hasClass_8 : decode cX7_hasClass 8 = .ok (.if_icmp .eq 25, 3) := by decide +kernel
theorem dX7_hasClass_11 : decode cX7_hasClass 11 = .ok (.aload_n 0, 1) := by decide +kernel
theorem dX7_hasClass_12 : decode cX7_hasClass 12 = .ok (.getfield 28, 3) := by decide +kernel
theorem dX7_hasClass_15 : decode cX7_hasClass 15 = .ok (.iload_n 1, 1) := by decide +kernel
theorem dX7_hasClass_16 : decode cX7_hasClass 16 = .ok (.caload, 1) := by decide +kernel
theorem dX7_hasClass_17 : decode cX7_hasClass 17 = .ok (.bipush 99, 2) := by decide +kernel
theorem dX7_hasClass_19 : decode cX7_hasClass 19 = .ok (.if_icmp .eq 14, 3) := by decide +kernel
theorem dX7_hasClass_22 : decode cX7_hasClass 22 = .ok (.aload_n 0, 1) := by decide +kernel
theorem dX7_hasClass_23 : decode cX7_hasClass 23 = .ok (.getfield 28, 3) := by decide +kernel
theorem dX7_hasClass_26 : decode cX7_hasClass 26 = .ok (.iload_n 1, 1) := by decide +kernel
theorem dX7_hasClass_27 : decode cX7_hasClass 27 = .ok (.caload, 1) := by decide +kernel
theorem dX7_hasClass_28 : decode cX7_hasClass 28 = .ok (.bipush 114, 2) := by decide +kernel
theorem dX7_hasClass_30 : decode cX7_hasClass 30 = .ok (.if_icmp .ne 7, 3) := by decide +kernel
theorem dX7_hasClass_33 : decode cX7_hasClass 33 = .ok (.iconst 1, 1) := by decide +kernel
theorem dX7_hasClass_34 : decode cX7_hasClass 34 = .ok (.goto 4, 3) := by decide +kernel
theorem dX7_hasClass_37 : decode cX7_hasClass 37 = .ok (.iconst 0, 1) := by decide +kernel
theorem dX7_hasClass_38 : decode cX7_hasClass 38 = .ok (.ireturn, 1) := by decide +kernel
theorem dX7_protest_0 : decode cX7_protest 0 = .ok (.aload_n 0, 1) := by decide +kernel
theorem dX7_protest_1 : decode cX7_protest 1 = .ok (.iload_n 1, 1) := by decide +kernel
theorem dX7_protest_2 : decode cX7_protest 2 = .ok (.invokestatic 90, 3) := by decide +kernel
theorem dX7_protest_5 : decode cX7_protest 5 = .ok (.ifCond .ne 11, 3) := by decide +kernel
theorem dX7_protest_8 : decode cX7_protest 8 = .ok (.aload_n 0, 1) := by decide +kernel
theorem dX7_protest_9 : decode cX7_protest 9 = .ok (.iload_n 2, 1) := by decide +kernel
theorem dX7_protest_10 : decode cX7_protest 10 = .ok (.invokevirtual 98, 3) := by decide +kernel
theorem dX7_protest_13 : decode cX7_protest 13 = .ok (.ifCond .eq 7, 3) := by decide +kernel
theorem dX7_protest_16 : decode cX7_protest 16 = .ok (.iconst 1, 1) := by decide +kernel
theorem dX7_protest_17 : decode cX7_protest 17 = .ok (.goto 4, 3) := by decide +kernel
theorem dX7_protest_20 : decode cX7_protest 20 = .ok (.iconst 0, 1) := by decide +kernel
theorem dX7_protest_21 : decode cX7_protest 21 = .ok (.iconst 1, 1) := by decide +kernel
theorem dX7_protest_22 : decode cX7_protest 22 = .ok (.invokevirtual 94, 3) := by decide +kernel
theorem dX7_protest_25 : decode cX7_protest 25 = .ok (.ifCond .ne 35, 3) := by decide +kernel
theorem dX7_protest_28 : decode cX7_protest 28 = .ok (.aload_n 0, 1) := by decide +kernel
theorem dX7_protest_29 : decode cX7_protest 29 = .ok (.aload_n 0, 1) := by decide +kernel
theorem dX7_protest_30 : decode cX7_protest 30 = .ok (.iload_n 2, 1) := by decide +kernel
theorem dX7_protest_31 : decode cX7_protest 31 = .ok (.invokevirtual 133, 3) := by decide +kernel
theorem dX7_protest_34 : decode cX7_protest 34 = .ok (.ifCond .eq 14, 3) := by decide +kernel
theorem dX7_protest_37 : decode cX7_protest 37 = .ok (.aload_n 0, 1) := by decide +kernel
theorem dX7_protest_38 : decode cX7_protest 38 = .ok (.getfield 50, 3) := by decide +kernel
theorem dX7_protest_41 : decode cX7_protest 41 = .ok (.iload_n 1, 1) := by decide +kernel
theorem dX7_protest_42 : decode cX7_protest 42 = .ok (.iaload, 1) := by decide +kernel
theorem dX7_protest_43 : decode cX7_protest 43 = .ok (.bipush 100, 2) := by decide +kernel
theorem dX7_protest_45 : decode cX7_protest 45 = .ok (.if_icmp .ge 7, 3) := by decide +kernel
theorem dX7_protest_48 : decode cX7_protest 48 = .ok (.iconst 1, 1) := by decide +kernel
theorem dX7_protest_49 : decode cX7_protest 49 = .ok (.goto 4, 3) := by decide +kernel
theorem dX7_protest_52 : decode cX7_protest 52 = .ok (.iconst 0, 1) := by decide +kernel
theorem dX7_protest_53 : decode cX7_protest 53 = .ok (.iconst 2, 1) := by decide +kernel
theorem dX7_protest_54 : decode cX7_protest 54 = .ok (.invokevirtual 94, 3) := by decide +kernel
theorem dX7_protest_57 : decode cX7_protest 57 = .ok (.ifCond .eq 5, 3) := by decide +kernel
theorem dX7_protest_60 : decode cX7_protest 60 = .ok (.iconst 0, 1) := by decide +kernel
theorem dX7_protest_61 : decode cX7_protest 61 = .ok (.ireturn, 1) := by decide +kernel
theorem dX7_protest_62 : decode cX7_protest 62 = .ok (.aload_n 0, 1) := by decide +kernel
theorem dX7_protest_63 : decode cX7_protest 63 = .ok (.getfield 32, 3) := by decide +kernel
theorem dX7_protest_66 : decode cX7_protest 66 = .ok (.iload_n 2, 1) := by decide +kernel
theorem dX7_protest_67 : decode cX7_protest 67 = .ok (.iaload, 1) := by decide +kernel
theorem dX7_protest_68 : decode cX7_protest 68 = .ok (.istore_n 3, 1) := by decide +kernel
theorem dX7_protest_69 : decode cX7_protest 69 = .ok (.aload_n 0, 1) := by decide +kernel
theorem dX7_protest_70 : decode cX7_protest 70 = .ok (.iload_n 2, 1) := by decide +kernel
theorem dX7_protest_71 : decode cX7_protest 71 = .ok (.invokevirtual 129, 3) := by decide +kernel
theorem dX7_protest_74 : decode cX7_protest 74 = .ok (.aload_n 0, 1) := by decide +kernel
theorem dX7_protest_75 : decode cX7_protest 75 = .ok (.getfield 32, 3) := by decide +kernel
theorem dX7_protest_78 : decode cX7_protest 78 = .ok (.iload_n 2, 1) := by decide +kernel
theorem dX7_protest_79 : decode cX7_protest 79 = .ok (.iaload, 1) := by decide +kernel
theorem dX7_protest_80 : decode cX7_protest 80 = .ok (.iload_n 3, 1) := by decide +kernel
theorem dX7_protest_81 : decode cX7_protest 81 = .ok (.if_icmp .eq 7, 3) := by decide +kernel
theorem dX7_protest_84 : decode cX7_protest 84 = .ok (.iconst 1, 1) := by decide +kernel
theorem dX7_protest_85 : decode cX7_protest 85 = .ok (.goto 4, 3) := by decide +kernel
theorem dX7_protest_88 : decode cX7_protest 88 = .ok (.iconst 0, 1) := by decide +kernel
theorem dX7_protest_89 : decode cX7_protest 89 = .ok (.istore 4, 2) := by decide +kernel
theorem dX7_protest_91 : decode cX7_protest 91 = .ok (.aload_n 0, 1) := by decide +kernel
theorem dX7_protest_92 : decode cX7_protest 92 = .ok (.getfield 50, 3) := by decide +kernel
theorem dX7_protest_95 : decode cX7_protest 95 = .ok (.iload_n 1, 1) := by decide +kernel
theorem dX7_protest_96 : decode cX7_protest 96 = .ok (.dup2, 1) := by decide +kernel
theorem dX7_protest_97 : decode cX7_protest 97 = .ok (.iaload, 1) := by decide +kernel
theorem dX7_protest_98 : decode cX7_protest 98 = .ok (.iload 4, 2) := by decide +kernel
theorem dX7_protest_100 : decode cX7_protest 100 = .ok (.ifCond .eq 7, 3) := by decide +kernel
theorem dX7_protest_103 : decode cX7_protest 103 = .ok (.iconst 0, 1) := by decide +kernel
theorem dX7_protest_104 : decode cX7_protest 104 = .ok (.goto 5, 3) := by decide +kernel
theorem dX7_protest_107 : decode cX7_protest 107 = .ok (.bipush 100, 2) := by decide +kernel
theorem dX7_protest_109 : decode cX7_protest 109 = .ok (.isub, 1) := by decide +kernel
theorem dX7_protest_110 : decode cX7_protest 110 = .ok (.iastore, 1) := by decide +kernel
theorem dX7_protest_111 : decode cX7_protest 111 = .ok (.iload 4, 2) := by decide +kernel
theorem dX7_protest_113 : decode cX7_protest 113 = .ok (.ireturn, 1) := by decide +kernel
theorem dX7_money_0 : decode cX7_money 0 = .ok (.aload_n 0, 1) := by decide +kernel
theorem dX7_money_1 : decode cX7_money 1 = .ok (.iload_n 1, 1) := by decide +kernel
theorem dX7_money_2 : decode cX7_money 2 = .ok (.invokestatic 90, 3) := by decide +kernel
theorem dX7_money_5 : decode cX7_money 5 = .ok (.iconst 1, 1) := by decide +kernel
theorem dX7_money_6 : decode cX7_money 6 = .ok (.invokevirtual 94, 3) := by decide +kernel
theorem dX7_money_9 : decode cX7_money 9 = .ok (.ifCond .eq 7, 3) := by decide +kernel
theorem dX7_money_12 : decode cX7_money 12 = .ok (.iconst 0, 1) := by decide +kernel
theorem dX7_money_13 : decode cX7_money 13 = .ok (.goto 9, 3) := by decide +kernel
theorem dX7_money_16 : decode cX7_money 16 = .ok (.aload_n 0, 1) := by decide +kernel
theorem dX7_money_17 : decode cX7_money 17 = .ok (.getfield 50, 3) := by decide +kernel
theorem dX7_money_20 : decode cX7_money 20 = .ok (.iload_n 1, 1) := by decide +kernel
theorem dX7_money_21 : decode cX7_money 21 = .ok (.iaload, 1) := by decide +kernel
theorem dX7_money_22 : decode cX7_money 22 = .ok (.ireturn, 1) := by decide +kernel
theorem dX7_border_0 : decode cX7_border 0 = .ok (.aload_n 0, 1) := by decide +kernel
theorem dX7_border_1 : decode cX7_border 1 = .ok (.aload_n 0, 1) := by decide +kernel
theorem dX7_border_2 : decode cX7_border 2 = .ok (.iload_n 1, 1) := by decide +kernel
theorem dX7_border_3 : decode cX7_border 3 = .ok (.invokevirtual 136, 3) := by decide +kernel
theorem dX7_border_6 : decode cX7_border 6 = .ok (.iconst 1, 1) := by decide +kernel
theorem dX7_border_7 : decode cX7_border 7 = .ok (.invokevirtual 94, 3) := by decide +kernel
theorem dX7_border_10 : decode cX7_border 10 = .ok (.ifCond .ne 38, 3) := by decide +kernel
theorem dX7_border_13 : decode cX7_border 13 = .ok (.aload_n 0, 1) := by decide +kernel
theorem dX7_border_14 : decode cX7_border 14 = .ok (.iload_n 2, 1) := by decide +kernel
theorem dX7_border_15 : decode cX7_border 15 = .ok (.iconst 0, 1) := by decide +kernel
theorem dX7_border_16 : decode cX7_border 16 = .ok (.sipush 500, 3) := by decide +kernel
theorem dX7_border_19 : decode cX7_border 19 = .ok (.invokestatic 83, 3) := by decide +kernel
theorem dX7_border_22 : decode cX7_border 22 = .ok (.ifCond .eq 14, 3) := by decide +kernel
theorem dX7_border_25 : decode cX7_border 25 = .ok (.iload_n 3, 1) := by decide +kernel
theorem dX7_border_26 : decode cX7_border 26 = .ok (.iload_n 2, 1) := by decide +kernel
theorem dX7_border_27 : decode cX7_border 27 = .ok (.sipush 500, 3) := by decide +kernel
theorem dX7_border_30 : decode cX7_border 30 = .ok (.invokestatic 83, 3) := by decide +kernel
theorem dX7_border_33 : decode cX7_border 33 = .ok (.ifCond .ne 7, 3) := by decide +kernel
theorem dX7_border_36 : decode cX7_border 36 = .ok (.iconst 1, 1) := by decide +kernel
theorem dX7_border_37 : decode cX7_border 37 = .ok (.goto 4, 3) := by decide +kernel
theorem dX7_border_40 : decode cX7_border 40 = .ok (.iconst 0, 1) := by decide +kernel
theorem dX7_border_41 : decode cX7_border 41 = .ok (.iconst 2, 1) := by decide +kernel
theorem dX7_border_42 : decode cX7_border 42 = .ok (.invokevirtual 94, 3) := by decide +kernel
theorem dX7_border_45 : decode cX7_border 45 = .ok (.ifCond .eq 5, 3) := by decide +kernel
theorem dX7_border_48 : decode cX7_border 48 = .ok (.iconst 0, 1) := by decide +kernel
theorem dX7_border_49 : decode cX7_border 49 = .ok (.ireturn, 1) := by decide +kernel
theorem dX7_border_50 : decode cX7_border 50 = .ok (.aload_n 0, 1) := by decide +kernel
theorem dX7_border_51 : decode cX7_border 51 = .ok (.getfield 44, 3) := by decide +kernel
theorem dX7_border_54 : decode cX7_border 54 = .ok (.iload_n 1, 1) := by decide +kernel
theorem dX7_border_55 : decode cX7_border 55 = .ok (.aaload, 1) := by decide +kernel
theorem dX7_border_56 : decode cX7_border 56 = .ok (.iconst 2, 1) := by decide +kernel
theorem dX7_border_57 : decode cX7_border 57 = .ok (.iload_n 2, 1) := by decide +kernel
theorem dX7_border_58 : decode cX7_border 58 = .ok (.iastore, 1) := by decide +kernel
theorem dX7_border_59 : decode cX7_border 59 = .ok (.aload_n 0, 1) := by decide +kernel
theorem dX7_border_60 : decode cX7_border 60 = .ok (.getfield 44, 3) := by decide +kernel
theorem dX7_border_63 : decode cX7_border 63 = .ok (.iload_n 1, 1) := by decide +kernel
theorem dX7_border_64 : decode cX7_border 64 = .ok (.aaload, 1) := by decide +kernel
theorem dX7_border_65 : decode cX7_border 65 = .ok (.iconst 3, 1) := by decide +kernel
theorem dX7_border_66 : decode cX7_border 66 = .ok (.iload_n 3, 1) := by decide +kernel
theorem dX7_border_67 : decode cX7_border 67 = .ok (.iastore, 1) := by decide +kernel
theorem dX7_border_68 : decode cX7_border 68 = .ok (.aload_n 0, 1) := by decide +kernel
theorem dX7_border_69 : decode cX7_border 69 = .ok (.getfield 47, 3) := by decide +kernel
theorem dX7_border_72 : decode cX7_border 72 = .ok (.iload_n 1, 1) := by decide +kernel
theorem dX7_border_73 : decode cX7_border 73 = .ok (.iconst (-1), 1) := by decide +kernel
theorem dX7_border_74 : decode cX7_border 74 = .ok (.iastore, 1) := by decide +kernel
theorem dX7_border_75 : decode cX7_border 75 = .ok (.iconst 0, 1) := by decide +kernel
theorem dX7_border_76 : decode cX7_border 76 = .ok (.istore 4, 2) := by decide +kernel
theorem dX7_border_78 : decode cX7_border 78 = .ok (.iconst 0, 1) := by decide +kernel
theorem dX7_border_79 : decode cX7_border 79 = .ok (.istore 5, 2) := by decide +kernel
theorem dX7_border_81 : decode cX7_border 81 = .ok (.iload 5, 2) := by decide +kernel
theorem dX7_border_83 : decode cX7_border 83 = .ok (.aload_n 0, 1) := by decide +kernel
theorem dX7_border_84 : decode cX7_border 84 = .ok (.getfield 80, 3) := by decide +kernel
theorem dX7_border_87 : decode cX7_border 87 = .ok (.if_icmp .ge 60, 3) := by decide +kernel
theorem dX7_border_90 : decode cX7_border 90 = .ok (.aload_n 0, 1) := by decide +kernel
theorem dX7_border_91 : decode cX7_border 91 = .ok (.getfield 32, 3) := by decide +kernel
theorem dX7_border_94 : decode cX7_border 94 = .ok (.iload 5, 2) := by decide +kernel
theorem dX7_border_96 : decode cX7_border 96 = .ok (.iaload, 1) := by decide +kernel
theorem dX7_border_97 : decode cX7_border 97 = .ok (.iload_n 1, 1) := by decide +kernel
theorem dX7_border_98 : decode cX7_border 98 = .ok (.if_icmp .ne 43, 3) := by decide +kernel
theorem dX7_border_101 : decode cX7_border 101 = .ok (.aload_n 0, 1) := by decide +kernel
theorem dX7_border_102 : decode cX7_border 102 = .ok (.iload_n 1, 1) := by decide +kernel
theorem dX7_border_103 : decode cX7_border 103 = .ok (.aload_n 0, 1) := by decide +kernel
theorem dX7_border_104 : decode cX7_border 104 = .ok (.getfield 21, 3) := by decide +kernel
theorem dX7_border_107 : decode cX7_border 107 = .ok (.iload 5, 2) := by decide +kernel
theorem dX7_border_109 : decode cX7_border 109 = .ok (.aaload, 1) := by decide +kernel
theorem dX7_border_110 : decode cX7_border 110 = .ok (.invokevirtual 111, 3) := by decide +kernel
theorem dX7_border_113 : decode cX7_border 113 = .ok (.ifCond .ne 28, 3) := by decide +kernel
theorem dX7_border_116 : decode cX7_border 116 = .ok (.aload_n 0, 1) := by decide +kernel
theorem dX7_border_117 : decode cX7_border 117 = .ok (.getfield 28, 3) := by decide +kernel
theorem dX7_border_120 : decode cX7_border 120 = .ok (.iload 5, 2) := by decide +kernel
theorem dX7_border_122 : decode cX7_border 122 = .ok (.bipush 114, 2) := by decide +kernel
theorem dX7_border_124 : decode cX7_border 124 = .ok (.castore, 1) := by decide +kernel
theorem dX7_border_125 : decode cX7_border 125 = .ok (.aload_n 0, 1) := by decide +kernel
theorem dX7_border_126 : decode cX7_border 126 = .ok (.getfield 35, 3) := by decide +kernel
theorem dX7_border_129 : decode cX7_border 129 = .ok (.iload 5, 2) := by decide +kernel
theorem dX7_border_131 : decode cX7_border 131 = .ok (.aload_n 0, 1) := by decide +kernel
theorem dX7_border_132 : decode cX7_border 132 = .ok (.getfield 126, 3) := by decide +kernel
theorem dX7_border_135 : decode cX7_border 135 = .ok (.iconst 2, 1) := by decide +kernel
theorem dX7_border_136 : decode cX7_border 136 = .ok (.iadd, 1) := by decide +kernel
theorem dX7_border_137 : decode cX7_border 137 = .ok (.iastore, 1) := by decide +kernel
theorem dX7_border_138 : decode cX7_border 138 = .ok (.iinc 4 1, 3) := by decide +kernel
theorem dX7_border_141 : decode cX7_border 141 = .ok (.iinc 5 1, 3) := by decide +kernel
theorem dX7_border_144 : decode cX7_border 144 = .ok (.goto (-63), 3) := by decide +kernel
theorem dX7_border_147 : decode cX7_border 147 = .ok (.iload 4, 2) := by decide +kernel
theorem dX7_border_149 : decode cX7_border 149 = .ok (.ireturn, 1) := by decide +kernel
theorem dX7_year_0 : decode cX7_year 0 = .ok (.aload_n 0, 1) := by decide +kernel
theorem dX7_year_1 : decode cX7_year 1 = .ok (.iconst 0, 1) := by decide +kernel
theorem dX7_year_2 : decode cX7_year 2 = .ok (.putfield 76, 3) := by decide +kernel
theorem dX7_year_5 : decode cX7_year 5 = .ok (.aload_n 0, 1) := by decide +kernel
theorem dX7_year_6 : decode cX7_year 6 = .ok (.getfield 126, 3) := by decide +kernel
theorem dX7_year_9 : decode cX7_year 9 = .ok (.ireturn, 1) := by decide +kernel
theorem dX7_next_0 : decode cX7_next 0 = .ok (.aload_n 0, 1) := by decide +kernel
theorem dX7_next_1 : decode cX7_next 1 = .ok (.aload_n 0, 1) := by decide +kernel
theorem dX7_next_2 : decode cX7_next 2 = .ok (.getfield 126, 3) := by decide +kernel
theorem dX7_next_5 : decode cX7_next 5 = .ok (.bipush 40, 2) := by decide +kernel
theorem dX7_next_7 : decode cX7_next 7 = .ok (.if_icmp .ne 7, 3) := by decide +kernel
theorem dX7_next_10 : decode cX7_next 10 = .ok (.iconst 1, 1) := by decide +kernel
theorem dX7_next_11 : decode cX7_next 11 = .ok (.goto 4, 3) := by decide +kernel
theorem dX7_next_14 : decode cX7_next 14 = .ok (.iconst 0, 1) := by decide +kernel
theorem dX7_next_15 : decode cX7_next 15 = .ok (.iconst 1, 1) := by decide +kernel
theorem dX7_next_16 : decode cX7_next 16 = .ok (.invokevirtual 94, 3) := by decide +kernel
theorem dX7_next_19 : decode cX7_next 19 = .ok (.ifCond .eq 5, 3) := by decide +kernel
theorem dX7_next_22 : decode cX7_next 22 = .ok (.iconst 0, 1) := by decide +kernel
theorem dX7_next_23 : decode cX7_next 23 = .ok (.ireturn, 1) := by decide +kernel
theorem dX7_next_24 : decode cX7_next 24 = .ok (.aload_n 0, 1) := by decide +kernel
theorem dX7_next_25 : decode cX7_next 25 = .ok (.dup, 1) := by decide +kernel
theorem dX7_next_26 : decode cX7_next 26 = .ok (.getfield 126, 3) := by decide +kernel
theorem dX7_next_29 : decode cX7_next 29 = .ok (.iconst 1, 1) := by decide +kernel
theorem dX7_next_30 : decode cX7_next 30 = .ok (.iadd, 1) := by decide +kernel
theorem dX7_next_31 : decode cX7_next 31 = .ok (.putfield 126, 3) := by decide +kernel
theorem dX7_next_34 : decode cX7_next 34 = .ok (.iconst 0, 1) := by decide +kernel
theorem dX7_next_35 : decode cX7_next 35 = .ok (.istore_n 1, 1) := by decide +kernel
theorem dX7_next_36 : decode cX7_next 36 = .ok (.iload_n 1, 1) := by decide +kernel
theorem dX7_next_37 : decode cX7_next 37 = .ok (.aload_n 0, 1) := by decide +kernel
theorem dX7_next_38 : decode cX7_next 38 = .ok (.getfield 80, 3) := by decide +kernel
theorem dX7_next_41 : decode cX7_next 41 = .ok (.if_icmp .ge 73, 3) := by decide +kernel
theorem dX7_next_44 : decode cX7_next 44 = .ok (.aload_n 0, 1) := by decide +kernel
theorem dX7_next_45 : decode cX7_next 45 = .ok (.getfield 35, 3) := by decide +kernel
theorem dX7_next_48 : decode cX7_next 48 = .ok (.iload_n 1, 1) := by decide +kernel
theorem dX7_next_49 : decode cX7_next 49 = .ok (.iaload, 1) := by decide +kernel
theorem dX7_next_50 : decode cX7_next 50 = .ok (.aload_n 0, 1) := by decide +kernel
theorem dX7_next_51 : decode cX7_next 51 = .ok (.getfield 126, 3) := by decide +kernel
theorem dX7_next_54 : decode cX7_next 54 = .ok (.if_icmp .ne 54, 3) := by decide +kernel
theorem dX7_next_57 : decode cX7_next 57 = .ok (.aload_n 0, 1) := by decide +kernel
theorem dX7_next_58 : decode cX7_next 58 = .ok (.getfield 28, 3) := by decide +kernel
theorem dX7_next_61 : decode cX7_next 61 = .ok (.iload_n 1, 1) := by decide +kernel
theorem dX7_next_62 : decode cX7_next 62 = .ok (.caload, 1) := by decide +kernel
theorem dX7_next_63 : decode cX7_next 63 = .ok (.bipush 120, 2) := by decide +kernel
theorem dX7_next_65 : decode cX7_next 65 = .ok (.if_icmp .ne 7, 3) := by decide +kernel
theorem dX7_next_68 : decode cX7_next 68 = .ok (.iconst 1, 1) := by decide +kernel
theorem dX7_next_69 : decode cX7_next 69 = .ok (.goto 4, 3) := by decide +kernel
theorem dX7_next_72 : decode cX7_next 72 = .ok (.iconst 0, 1) := by decide +kernel
theorem dX7_next_73 : decode cX7_next 73 = .ok (.istore_n 2, 1) := by decide +kernel
theorem dX7_next_74 : decode cX7_next 74 = .ok (.aload_n 0, 1) := by decide +kernel
theorem dX7_next_75 : decode cX7_next 75 = .ok (.iload_n 1, 1) := by decide +kernel
theorem dX7_next_76 : decode cX7_next 76 = .ok (.iload_n 2, 1) := by decide +kernel
theorem dX7_next_77 : decode cX7_next 77 = .ok (.ifCond .eq 7, 3) := by decide +kernel
theorem dX7_next_80 : decode cX7_next 80 = .ok (.iconst (-1), 1) := by decide +kernel
theorem dX7_next_81 : decode cX7_next 81 = .ok (.goto 13, 3) := by decide +kernel
theorem dX7_next_84 : decode cX7_next 84 = .ok (.aload_n 0, 1) := by decide +kernel
theorem dX7_next_85 : decode cX7_next 85 = .ok (.aload_n 0, 1) := by decide +kernel
theorem dX7_next_86 : decode cX7_next 86 = .ok (.getfield 21, 3) := by decide +kernel
theorem dX7_next_89 : decode cX7_next 89 = .ok (.iload_n 1, 1) := by decide +kernel
theorem dX7_next_90 : decode cX7_next 90 = .ok (.aaload, 1) := by decide +kernel
theorem dX7_next_91 : decode cX7_next 91 = .ok (.invokevirtual 115, 3) := by decide +kernel
theorem dX7_next_94 : decode cX7_next 94 = .ok (.iload_n 2, 1) := by decide +kernel
theorem dX7_next_95 : decode cX7_next 95 = .ok (.ifCond .eq 8, 3) := by decide +kernel
theorem dX7_next_98 : decode cX7_next 98 = .ok (.bipush 45, 2) := by decide +kernel
theorem dX7_next_100 : decode cX7_next 100 = .ok (.goto 5, 3) := by decide +kernel
theorem dX7_next_103 : decode cX7_next 103 = .ok (.bipush 99, 2) := by decide +kernel
theorem dX7_next_105 : decode cX7_next 105 = .ok (.invokevirtual 122, 3) := by decide +kernel
theorem dX7_next_108 : decode cX7_next 108 = .ok (.iinc 1 1, 3) := by decide +kernel
theorem dX7_next_111 : decode cX7_next 111 = .ok (.goto (-75), 3) := by decide +kernel
theorem dX7_next_114 : decode cX7_next 114 = .ok (.aload_n 0, 1) := by decide +kernel
theorem dX7_next_115 : decode cX7_next 115 = .ok (.getfield 126, 3) := by decide +kernel
theorem dX7_next_118 : decode cX7_next 118 = .ok (.ireturn, 1) := by decide +kernel
theorem dX7_until_0 : decode cX7_until 0 = .ok (.aload_n 0, 1) := by decide +kernel
theorem dX7_until_1 : decode cX7_until 1 = .ok (.aload_n 0, 1) := by decide +kernel
theorem dX7_until_2 : decode cX7_until 2 = .ok (.iload_n 1, 1) := by decide +kernel
theorem dX7_until_3 : decode cX7_until 3 = .ok (.invokevirtual 98, 3) := by decide +kernel
theorem dX7_until_6 : decode cX7_until 6 = .ok (.iconst 1, 1) := by decide +kernel
theorem dX7_until_7 : decode cX7_until 7 = .ok (.invokevirtual 94, 3) := by decide +kernel
theorem dX7_until_10 : decode cX7_until 10 = .ok (.ifCond .ne 26, 3) := by decide +kernel
theorem dX7_until_13 : decode cX7_until 13 = .ok (.aload_n 0, 1) := by decide +kernel
theorem dX7_until_14 : decode cX7_until 14 = .ok (.aload_n 0, 1) := by decide +kernel
theorem dX7_until_15 : decode cX7_until 15 = .ok (.getfield 35, 3) := by decide +kernel
theorem dX7_until_18 : decode cX7_until 18 = .ok (.iload_n 1, 1) := by decide +kernel
theorem dX7_until_19 : decode cX7_until 19 = .ok (.iaload, 1) := by decide +kernel
theorem dX7_until_20 : decode cX7_until 20 = .ok (.iconst (-1), 1) := by decide +kernel
theorem dX7_until_21 : decode cX7_until 21 = .ok (.if_icmp .ne 7, 3) := by decide +kernel
theorem dX7_until_24 : decode cX7_until 24 = .ok (.iconst 1, 1) := by decide +kernel
theorem dX7_until_25 : decode cX7_until 25 = .ok (.goto 4, 3) := by decide +kernel
theorem dX7_until_28 : decode cX7_until 28 = .ok (.iconst 0, 1) := by decide +kernel
theorem dX7_until_29 : decode cX7_until 29 = .ok (.iconst 2, 1) := by decide +kernel
theorem dX7_until_30 : decode cX7_until 30 = .ok (.invokevirtual 94, 3) := by decide +kernel
theorem dX7_until_33 : decode cX7_until 33 = .ok (.ifCond .eq 7, 3) := by decide +kernel
theorem dX7_until_36 : decode cX7_until 36 = .ok (.iconst 0, 1) := by decide +kernel
theorem dX7_until_37 : decode cX7_until 37 = .ok (.goto 9, 3) := by decide +kernel
theorem dX7_until_40 : decode cX7_until 40 = .ok (.aload_n 0, 1) := by decide +kernel
theorem dX7_until_41 : decode cX7_until 41 = .ok (.getfield 35, 3) := by decide +kernel
theorem dX7_until_44 : decode cX7_until 44 = .ok (.iload_n 1, 1) := by decide +kernel
theorem dX7_until_45 : decode cX7_until 45 = .ok (.iaload, 1) := by decide +kernel
theorem dX7_until_46 : decode cX7_until 46 = .ok (.ireturn, 1) := by decide +kernel
theorem dX7_isNoEvent_0 : decode cX7_isNoEvent 0 = .ok (.iload_n 1, 1) := by decide +kernel
theorem dX7_isNoEvent_1 : decode cX7_isNoEvent 1 = .ok (.iconst 0, 1) := by decide +kernel
theorem dX7_isNoEvent_2 : decode cX7_isNoEvent 2 = .ok (.aload_n 0, 1) := by decide +kernel
theorem dX7_isNoEvent_3 : decode cX7_isNoEvent 3 = .ok (.getfield 119, 3) := by decide +kernel
theorem dX7_isNoEvent_6 : decode cX7_isNoEvent 6 = .ok (.iconst 1, 1) := by decide +kernel
theorem dX7_isNoEvent_7 : decode cX7_isNoEvent 7 = .ok (.isub, 1) := by decide +kernel
theorem dX7_isNoEvent_8 : decode cX7_isNoEvent 8 = .ok (.invokestatic 83, 3) := by decide +kernel
theorem dX7_isNoEvent_11 : decode cX7_isNoEvent 11 = .ok (.ifCond .ne 7, 3) := by decide +kernel
theorem dX7_isNoEvent_14 : decode cX7_isNoEvent 14 = .ok (.iconst 1, 1) := by decide +kernel
theorem dX7_isNoEvent_15 : decode cX7_isNoEvent 15 = .ok (.goto 4, 3) := by decide +kernel
theorem dX7_isNoEvent_18 : decode cX7_isNoEvent 18 = .ok (.iconst 0, 1) := by decide +kernel
theorem dX7_isNoEvent_19 : decode cX7_isNoEvent 19 = .ok (.ireturn, 1) := by decide +kernel
theorem dX7_event_0 : decode cX7_event 0 = .ok (.aload_n 0, 1) := by decide +kernel
theorem dX7_event_1 : decode cX7_event 1 = .ok (.iload_n 1, 1) := by decide +kernel
theorem dX7_event_2 : decode cX7_event 2 = .ok (.iconst 1, 1) := by decide +kernel
theorem dX7_event_3 : decode cX7_event 3 = .ok (.iconst 1, 1) := by decide +kernel
theorem dX7_event_4 : decode cX7_event 4 = .ok (.aload_n 0, 1) := by decide +kernel
theorem dX7_event_5 : decode cX7_event 5 = .ok (.getfield 87, 3) := by decide +kernel
theorem dX7_event_8 : decode cX7_event 8 = .ok (.ishl, 1) := by decide +kernel
theorem dX7_event_9 : decode cX7_event 9 = .ok (.iconst 1, 1) := by decide +kernel
theorem dX7_event_10 : decode cX7_event 10 = .ok (.isub, 1) := by decide +kernel
theorem dX7_event_11 : decode cX7_event 11 = .ok (.invokestatic 83, 3) := by decide +kernel
theorem dX7_event_14 : decode cX7_event 14 = .ok (.ifCond .ne 7, 3) := by decide +kernel
theorem dX7_event_17 : decode cX7_event 17 = .ok (.iconst 1, 1) := by decide +kernel
theorem dX7_event_18 : decode cX7_event 18 = .ok (.goto 4, 3) := by decide +kernel
theorem dX7_event_21 : decode cX7_event 21 = .ok (.iconst 0, 1) := by decide +kernel
theorem dX7_event_22 : decode cX7_event 22 = .ok (.iconst 1, 1) := by decide +kernel
theorem dX7_event_23 : decode cX7_event 23 = .ok (.invokevirtual 94, 3) := by decide +kernel
theorem dX7_event_26 : decode cX7_event 26 = .ok (.ifCond .ne 25, 3) := by decide +kernel
theorem dX7_event_29 : decode cX7_event 29 = .ok (.aload_n 0, 1) := by decide +kernel
theorem dX7_event_30 : decode cX7_event 30 = .ok (.aload_n 0, 1) := by decide +kernel
theorem dX7_event_31 : decode cX7_event 31 = .ok (.getfield 119, 3) := by decide +kernel
theorem dX7_event_34 : decode cX7_event 34 = .ok (.bipush 8, 2) := by decide +kernel
theorem dX7_event_36 : decode cX7_event 36 = .ok (.if_icmp .ne 7, 3) := by decide +kernel
theorem dX7_event_39 : decode cX7_event 39 = .ok (.iconst 1, 1) := by decide +kernel
theorem dX7_event_40 : decode cX7_event 40 = .ok (.goto 4, 3) := by decide +kernel
theorem dX7_event_43 : decode cX7_event 43 = .ok (.iconst 0, 1) := by decide +kernel
theorem dX7_event_44 : decode cX7_event 44 = .ok (.iconst 2, 1) := by decide +kernel
theorem dX7_event_45 : decode cX7_event 45 = .ok (.invokevirtual 94, 3) := by decide +kernel
theorem dX7_event_48 : decode cX7_event 48 = .ok (.ifCond .eq 5, 3) := by decide +kernel
theorem dX7_event_51 : decode cX7_event 51 = .ok (.iconst 0, 1) := by decide +kernel
theorem dX7_event_52 : decode cX7_event 52 = .ok (.ireturn, 1) := by decide +kernel
theorem dX7_event_53 : decode cX7_event 53 = .ok (.aload_n 0, 1) := by decide +kernel
theorem dX7_event_54 : decode cX7_event 54 = .ok (.getfield 53, 3) := by decide +kernel
theorem dX7_event_57 : decode cX7_event 57 = .ok (.aload_n 0, 1) := by decide +kernel
theorem dX7_event_58 : decode cX7_event 58 = .ok (.getfield 119, 3) := by decide +kernel
theorem dX7_event_61 : decode cX7_event 61 = .ok (.iload_n 1, 1) := by decide +kernel
theorem dX7_event_62 : decode cX7_event 62 = .ok (.iastore, 1) := by decide +kernel
theorem dX7_event_63 : decode cX7_event 63 = .ok (.aload_n 0, 1) := by decide +kernel
theorem dX7_event_64 : decode cX7_event 64 = .ok (.dup, 1) := by decide +kernel
theorem dX7_event_65 : decode cX7_event 65 = .ok (.getfield 119, 3) := by decide +kernel
theorem dX7_event_68 : decode cX7_event 68 = .ok (.iconst 1, 1) := by decide +kernel
theorem dX7_event_69 : decode cX7_event 69 = .ok (.iadd, 1) := by decide +kernel
theorem dX7_event_70 : decode cX7_event 70 = .ok (.putfield 119, 3) := by decide +kernel
theorem dX7_event_73 : decode cX7_event 73 = .ok (.aload_n 0, 1) := by decide +kernel
theorem dX7_event_74 : decode cX7_event 74 = .ok (.getfield 119, 3) := by decide +kernel
theorem dX7_event_77 : decode cX7_event 77 = .ok (.iconst 1, 1) := by decide +kernel
theorem dX7_event_78 : decode cX7_event 78 = .ok (.isub, 1) := by decide +kernel
theorem dX7_event_79 : decode cX7_event 79 = .ok (.ireturn, 1) := by decide +kernel
theorem dX7_isFor_0 : decode cX7_isFor 0 = .ok (.iload_n 2, 1) := by decide +kernel
theorem dX7_isFor_1 : decode cX7_isFor 1 = .ok (.ifCond .lt 21, 3) := by decide +kernel
theorem dX7_isFor_4 : decode cX7_isFor 4 = .ok (.aload_n 0, 1) := by decide +kernel
theorem dX7_isFor_5 : decode cX7_isFor 5 = .ok (.getfield 53, 3) := by decide +kernel
theorem dX7_isFor_8 : decode cX7_isFor 8 = .ok (.iload_n 1, 1) := by decide +kernel
theorem dX7_isFor_9 : decode cX7_isFor 9 = .ok (.iaload, 1) := by decide +kernel
theorem dX7_isFor_10 : decode cX7_isFor 10 = .ok (.iload_n 2, 1) := by decide +kernel
theorem dX7_isFor_11 : decode cX7_isFor 11 = .ok (.ishr, 1) := by decide +kernel
theorem dX7_isFor_12 : decode cX7_isFor 12 = .ok (.iconst 1, 1) := by decide +kernel
theorem dX7_isFor_13 : decode cX7_isFor 13 = .ok (.iand, 1) := by decide +kernel
theorem dX7_isFor_14 : decode cX7_isFor 14 = .ok (.iconst 1, 1) := by decide +kernel
theorem dX7_isFor_15 : decode cX7_isFor 15 = .ok (.if_icmp .ne 7, 3) := by decide +kernel
theorem dX7_isFor_18 : decode cX7_isFor 18 = .ok (.iconst 1, 1) := by decide +kernel
theorem dX7_isFor_19 : decode cX7_isFor 19 = .ok (.goto 4, 3) := by decide +kernel
theorem dX7_isFor_22 : decode cX7_isFor 22 = .ok (.iconst 0, 1) := by decide +kernel
theorem dX7_isFor_23 : decode cX7_isFor 23 = .ok (.ireturn, 1) := by decide +kernel
theorem dX7_factor_0 : decode cX7_factor 0 = .ok (.aload_n 0, 1) := by decide +kernel
theorem dX7_factor_1 : decode cX7_factor 1 = .ok (.aload_n 0, 1) := by decide +kernel
theorem dX7_factor_2 : decode cX7_factor 2 = .ok (.iload_n 1, 1) := by decide +kernel
theorem dX7_factor_3 : decode cX7_factor 3 = .ok (.invokevirtual 139, 3) := by decide +kernel
theorem dX7_factor_6 : decode cX7_factor 6 = .ok (.ifCond .ne 20, 3) := by decide +kernel
theorem dX7_factor_9 : decode cX7_factor 9 = .ok (.aload_n 0, 1) := by decide +kernel
theorem dX7_factor_10 : decode cX7_factor 10 = .ok (.iload_n 2, 1) := by decide +kernel
theorem dX7_factor_11 : decode cX7_factor 11 = .ok (.invokevirtual 136, 3) := by decide +kernel
theorem dX7_factor_14 : decode cX7_factor 14 = .ok (.ifCond .ne 12, 3) := by decide +kernel
theorem dX7_factor_17 : decode cX7_factor 17 = .ok (.aload_n 0, 1) := by decide +kernel
theorem dX7_factor_18 : decode cX7_factor 18 = .ok (.iload_n 1, 1) := by decide +kernel
theorem dX7_factor_19 : decode cX7_factor 19 = .ok (.iload_n 2, 1) := by decide +kernel
theorem dX7_factor_20 : decode cX7_factor 20 = .ok (.invokevirtual 142, 3) := by decide +kernel
theorem dX7_factor_23 : decode cX7_factor 23 = .ok (.ifCond .ne 7, 3) := by decide +kernel
theorem dX7_factor_26 : decode cX7_factor 26 = .ok (.iconst 1, 1) := by decide +kernel
theorem dX7_factor_27 : decode cX7_factor 27 = .ok (.goto 4, 3) := by decide +kernel
theorem dX7_factor_30 : decode cX7_factor 30 = .ok (.iconst 0, 1) := by decide +kernel
theorem dX7_factor_31 : decode cX7_factor 31 = .ok (.iconst 1, 1) := by decide +kernel
theorem dX7_factor_32 : decode cX7_factor 32 = .ok (.invokevirtual 94, 3) := by decide +kernel
theorem dX7_factor_35 : decode cX7_factor 35 = .ok (.ifCond .ne 41, 3) := by decide +kernel
theorem dX7_factor_38 : decode cX7_factor 38 = .ok (.aload_n 0, 1) := by decide +kernel
theorem dX7_factor_39 : decode cX7_factor 39 = .ok (.iload_n 3, 1) := by decide +kernel
theorem dX7_factor_40 : decode cX7_factor 40 = .ok (.bipush 50, 2) := by decide +kernel
theorem dX7_factor_42 : decode cX7_factor 42 = .ok (.bipush 100, 2) := by decide +kernel
theorem dX7_factor_44 : decode cX7_factor 44 = .ok (.invokestatic 83, 3) := by decide +kernel
theorem dX7_factor_47 : decode cX7_factor 47 = .ok (.ifCond .ne 7, 3) := by decide +kernel
theorem dX7_factor_50 : decode cX7_factor 50 = .ok (.iconst 1, 1) := by decide +kernel
theorem dX7_factor_51 : decode cX7_factor 51 = .ok (.goto 4, 3) := by decide +kernel
theorem dX7_factor_54 : decode cX7_factor 54 = .ok (.iconst 0, 1) := by decide +kernel
theorem dX7_factor_55 : decode cX7_factor 55 = .ok (.iconst 2, 1) := by decide +kernel
theorem dX7_factor_56 : decode cX7_factor 56 = .ok (.invokevirtual 94, 3) := by decide +kernel
theorem dX7_factor_59 : decode cX7_factor 59 = .ok (.ifCond .ne 17, 3) := by decide +kernel
theorem dX7_factor_62 : decode cX7_factor 62 = .ok (.aload_n 0, 1) := by decide +kernel
theorem dX7_factor_63 : decode cX7_factor 63 = .ok (.aload_n 0, 1) := by decide +kernel
theorem dX7_factor_64 : decode cX7_factor 64 = .ok (.getfield 59, 3) := by decide +kernel
theorem dX7_factor_67 : decode cX7_factor 67 = .ok (.iload_n 1, 1) := by decide +kernel
theorem dX7_factor_68 : decode cX7_factor 68 = .ok (.baload, 1) := by decide +kernel
theorem dX7_factor_69 : decode cX7_factor 69 = .ok (.iconst 3, 1) := by decide +kernel
theorem dX7_factor_70 : decode cX7_factor 70 = .ok (.invokevirtual 94, 3) := by decide +kernel
theorem dX7_factor_73 : decode cX7_factor 73 = .ok (.ifCond .eq 5, 3) := by decide +kernel
theorem dX7_factor_76 : decode cX7_factor 76 = .ok (.iconst 0, 1) := by decide +kernel
theorem dX7_factor_77 : decode cX7_factor 77 = .ok (.ireturn, 1) := by decide +kernel
theorem dX7_factor_78 : decode cX7_factor 78 = .ok (.aload_n 0, 1) := by decide +kernel
theorem dX7_factor_79 : decode cX7_factor 79 = .ok (.getfield 56, 3) := by decide +kernel
theorem dX7_factor_82 : decode cX7_factor 82 = .ok (.iload_n 1, 1) := by decide +kernel
theorem dX7_factor_83 : decode cX7_factor 83 = .ok (.aaload, 1) := by decide +kernel
theorem dX7_factor_84 : decode cX7_factor 84 = .ok (.iload_n 2, 1) := by decide +kernel
theorem dX7_factor_85 : decode cX7_factor 85 = .ok (.iaload, 1) := by decide +kernel
theorem dX7_factor_86 : decode cX7_factor 86 = .ok (.istore 4, 2) := by decide +kernel
theorem dX7_factor_88 : decode cX7_factor 88 = .ok (.aload_n 0, 1) := by decide +kernel
theorem dX7_factor_89 : decode cX7_factor 89 = .ok (.getfield 56, 3) := by decide +kernel
theorem dX7_factor_92 : decode cX7_factor 92 = .ok (.iload_n 1, 1) := by decide +kernel
theorem dX7_factor_93 : decode cX7_factor 93 = .ok (.aaload, 1) := by decide +kernel
theorem dX7_factor_94 : decode cX7_factor 94 = .ok (.iload_n 2, 1) := by decide +kernel
theorem dX7_factor_95 : decode cX7_factor 95 = .ok (.iload_n 3, 1) := by decide +kernel
theorem dX7_factor_96 : decode cX7_factor 96 = .ok (.iastore, 1) := by decide +kernel
theorem dX7_factor_97 : decode cX7_factor 97 = .ok (.iload 4, 2) := by decide +kernel
theorem dX7_factor_99 : decode cX7_factor 99 = .ok (.ireturn, 1) := by decide +kernel
theorem dX7_isNoPair_0 : decode cX7_isNoPair 0 = .ok (.aload_n 0, 1) := by decide +kernel
theorem dX7_isNoPair_1 : decode cX7_isNoPair 1 = .ok (.iload_n 1, 1) := by decide +kernel
theorem dX7_isNoPair_2 : decode cX7_isNoPair 2 = .ok (.invokevirtual 139, 3) := by decide +kernel
theorem dX7_isNoPair_5 : decode cX7_isNoPair 5 = .ok (.ifCond .ne 11, 3) := by decide +kernel
theorem dX7_isNoPair_8 : decode cX7_isNoPair 8 = .ok (.aload_n 0, 1) := by decide +kernel
theorem dX7_isNoPair_9 : decode cX7_isNoPair 9 = .ok (.iload_n 2, 1) := by decide +kernel
theorem dX7_isNoPair_10 : decode cX7_isNoPair 10 = .ok (.invokevirtual 98, 3) := by decide +kernel
theorem dX7_isNoPair_13 : decode cX7_isNoPair 13 = .ok (.ifCond .eq 7, 3) := by decide +kernel
theorem dX7_isNoPair_16 : decode cX7_isNoPair 16 = .ok (.iconst 1, 1) := by decide +kernel
theorem dX7_isNoPair_17 : decode cX7_isNoPair 17 = .ok (.goto 4, 3) := by decide +kernel
theorem dX7_isNoPair_20 : decode cX7_isNoPair 20 = .ok (.iconst 0, 1) := by decide +kernel
theorem dX7_isNoPair_21 : decode cX7_isNoPair 21 = .ok (.ireturn, 1) := by decide +kernel
theorem dX7_enter_0 : decode cX7_enter 0 = .ok (.aload_n 0, 1) := by decide +kernel
theorem dX7_enter_1 : decode cX7_enter 1 = .ok (.aload_n 0, 1) := by decide +kernel
theorem dX7_enter_2 : decode cX7_enter 2 = .ok (.iload_n 1, 1) := by decide +kernel
theorem dX7_enter_3 : decode cX7_enter 3 = .ok (.iload_n 2, 1) := by decide +kernel
theorem dX7_enter_4 : decode cX7_enter 4 = .ok (.invokevirtual 146, 3) := by decide +kernel
theorem dX7_enter_7 : decode cX7_enter 7 = .ok (.iconst 1, 1) := by decide +kernel
theorem dX7_enter_8 : decode cX7_enter 8 = .ok (.invokevirtual 94, 3) := by decide +kernel
theorem dX7_enter_11 : decode cX7_enter 11 = .ok (.ifCond .ne 59, 3) := by decide +kernel
theorem dX7_enter_14 : decode cX7_enter 14 = .ok (.aload_n 0, 1) := by decide +kernel
theorem dX7_enter_15 : decode cX7_enter 15 = .ok (.aload_n 0, 1) := by decide +kernel
theorem dX7_enter_16 : decode cX7_enter 16 = .ok (.getfield 59, 3) := by decide +kernel
theorem dX7_enter_19 : decode cX7_enter 19 = .ok (.iload_n 1, 1) := by decide +kernel
theorem dX7_enter_20 : decode cX7_enter 20 = .ok (.baload, 1) := by decide +kernel
theorem dX7_enter_21 : decode cX7_enter 21 = .ok (.ifCond .ne 37, 3) := by decide +kernel
theorem dX7_enter_24 : decode cX7_enter 24 = .ok (.aload_n 0, 1) := by decide +kernel
theorem dX7_enter_25 : decode cX7_enter 25 = .ok (.getfield 65, 3) := by decide +kernel
theorem dX7_enter_28 : decode cX7_enter 28 = .ok (.iload_n 1, 1) := by decide +kernel
theorem dX7_enter_29 : decode cX7_enter 29 = .ok (.aaload, 1) := by decide +kernel
theorem dX7_enter_30 : decode cX7_enter 30 = .ok (.iload_n 2, 1) := by decide +kernel
theorem dX7_enter_31 : decode cX7_enter 31 = .ok (.iaload, 1) := by decide +kernel
theorem dX7_enter_32 : decode cX7_enter 32 = .ok (.iconst (-1), 1) := by decide +kernel
theorem dX7_enter_33 : decode cX7_enter 33 = .ok (.if_icmp .ne 25, 3) := by decide +kernel
theorem dX7_enter_36 : decode cX7_enter 36 = .ok (.aload_n 0, 1) := by decide +kernel
theorem dX7_enter_37 : decode cX7_enter 37 = .ok (.iload_n 2, 1) := by decide +kernel
theorem dX7_enter_38 : decode cX7_enter 38 = .ok (.invokevirtual 133, 3) := by decide +kernel
theorem dX7_enter_41 : decode cX7_enter 41 = .ok (.ifCond .eq 17, 3) := by decide +kernel
theorem dX7_enter_44 : decode cX7_enter 44 = .ok (.aload_n 0, 1) := by decide +kernel
theorem dX7_enter_45 : decode cX7_enter 45 = .ok (.iload_n 1, 1) := by decide +kernel
theorem dX7_enter_46 : decode cX7_enter 46 = .ok (.aload_n 0, 1) := by decide +kernel
theorem dX7_enter_47 : decode cX7_enter 47 = .ok (.getfield 32, 3) := by decide +kernel
theorem dX7_enter_50 : decode cX7_enter 50 = .ok (.iload_n 2, 1) := by decide +kernel
theorem dX7_enter_51 : decode cX7_enter 51 = .ok (.iaload, 1) := by decide +kernel
theorem dX7_enter_52 : decode cX7_enter 52 = .ok (.invokevirtual 142, 3) := by decide +kernel
theorem dX7_enter_55 : decode cX7_enter 55 = .ok (.ifCond .ne 7, 3) := by decide +kernel
theorem dX7_enter_58 : decode cX7_enter 58 = .ok (.iconst 1, 1) := by decide +kernel
theorem dX7_enter_59 : decode cX7_enter 59 = .ok (.goto 4, 3) := by decide +kernel
theorem dX7_enter_62 : decode cX7_enter 62 = .ok (.iconst 0, 1) := by decide +kernel
theorem dX7_enter_63 : decode cX7_enter 63 = .ok (.iconst 2, 1) := by decide +kernel
theorem dX7_enter_64 : decode cX7_enter 64 = .ok (.invokevirtual 94, 3) := by decide +kernel
theorem dX7_enter_67 : decode cX7_enter 67 = .ok (.ifCond .eq 5, 3) := by decide +kernel
theorem dX7_enter_70 : decode cX7_enter 70 = .ok (.iconst 0, 1) := by decide +kernel
theorem dX7_enter_71 : decode cX7_enter 71 = .ok (.ireturn, 1) := by decide +kernel
theorem dX7_enter_72 : decode cX7_enter 72 = .ok (.aload_n 0, 1) := by decide +kernel
theorem dX7_enter_73 : decode cX7_enter 73 = .ok (.getfield 65, 3) := by decide +kernel
theorem dX7_enter_76 : decode cX7_enter 76 = .ok (.iload_n 1, 1) := by decide +kernel
theorem dX7_enter_77 : decode cX7_enter 77 = .ok (.aaload, 1) := by decide +kernel
theorem dX7_enter_78 : decode cX7_enter 78 = .ok (.iload_n 2, 1) := by decide +kernel
theorem dX7_enter_79 : decode cX7_enter 79 = .ok (.aload_n 0, 1) := by decide +kernel
theorem dX7_enter_80 : decode cX7_enter 80 = .ok (.getfield 32, 3) := by decide +kernel
theorem dX7_enter_83 : decode cX7_enter 83 = .ok (.iload_n 2, 1) := by decide +kernel
theorem dX7_enter_84 : decode cX7_enter 84 = .ok (.iaload, 1) := by decide +kernel
theorem dX7_enter_85 : decode cX7_enter 85 = .ok (.iastore, 1) := by decide +kernel
theorem dX7_enter_86 : decode cX7_enter 86 = .ok (.iconst 0, 1) := by decide +kernel
theorem dX7_enter_87 : decode cX7_enter 87 = .ok (.istore_n 3, 1) := by decide +kernel
theorem dX7_enter_88 : decode cX7_enter 88 = .ok (.aload_n 0, 1) := by decide +kernel
theorem dX7_enter_89 : decode cX7_enter 89 = .ok (.getfield 65, 3) := by decide +kernel
theorem dX7_enter_92 : decode cX7_enter 92 = .ok (.iload_n 1, 1) := by decide +kernel
theorem dX7_enter_93 : decode cX7_enter 93 = .ok (.aaload, 1) := by decide +kernel
theorem dX7_enter_94 : decode cX7_enter 94 = .ok (.astore 4, 2) := by decide +kernel
theorem dX7_enter_96 : decode cX7_enter 96 = .ok (.aload 4, 2) := by decide +kernel
theorem dX7_enter_98 : decode cX7_enter 98 = .ok (.arraylength, 1) := by decide +kernel
theorem dX7_enter_99 : decode cX7_enter 99 = .ok (.istore 5, 2) := by decide +kernel
theorem dX7_enter_101 : decode cX7_enter 101 = .ok (.iconst 0, 1) := by decide +kernel
theorem dX7_enter_102 : decode cX7_enter 102 = .ok (.istore 6, 2) := by decide +kernel
theorem dX7_enter_104 : decode cX7_enter 104 = .ok (.iload 6, 2) := by decide +kernel
theorem dX7_enter_106 : decode cX7_enter 106 = .ok (.iload 5, 2) := by decide +kernel
theorem dX7_enter_108 : decode cX7_enter 108 = .ok (.if_icmp .ge 30, 3) := by decide +kernel
theorem dX7_enter_111 : decode cX7_enter 111 = .ok (.aload 4, 2) := by decide +kernel
theorem dX7_enter_113 : decode cX7_enter 113 = .ok (.iload 6, 2) := by decide +kernel
theorem dX7_enter_115 : decode cX7_enter 115 = .ok (.iaload, 1) := by decide +kernel
theorem dX7_enter_116 : decode cX7_enter 116 = .ok (.istore 7, 2) := by decide +kernel
theorem dX7_enter_118 : decode cX7_enter 118 = .ok (.iload_n 3, 1) := by decide +kernel
theorem dX7_enter_119 : decode cX7_enter 119 = .ok (.iload 7, 2) := by decide +kernel
theorem dX7_enter_121 : decode cX7_enter 121 = .ok (.iconst (-1), 1) := by decide +kernel
theorem dX7_enter_122 : decode cX7_enter 122 = .ok (.if_icmp .ne 7, 3) := by decide +kernel
theorem dX7_enter_125 : decode cX7_enter 125 = .ok (.iconst 0, 1) := by decide +kernel
theorem dX7_enter_126 : decode cX7_enter 126 = .ok (.goto 4, 3) := by decide +kernel
theorem dX7_enter_129 : decode cX7_enter 129 = .ok (.iconst 1, 1) := by decide +kernel
theorem dX7_enter_130 : decode cX7_enter 130 = .ok (.iadd, 1) := by decide +kernel
theorem dX7_enter_131 : decode cX7_enter 131 = .ok (.istore_n 3, 1) := by decide +kernel
theorem dX7_enter_132 : decode cX7_enter 132 = .ok (.iinc 6 1, 3) := by decide +kernel
theorem dX7_enter_135 : decode cX7_enter 135 = .ok (.goto (-31), 3) := by decide +kernel
theorem dX7_enter_138 : decode cX7_enter 138 = .ok (.iload_n 3, 1) := by decide +kernel
theorem dX7_enter_139 : decode cX7_enter 139 = .ok (.ireturn, 1) := by decide +kernel
theorem dX7_isStanding_0 : decode cX7_isStanding 0 = .ok (.aload_n 0, 1) := by decide +kernel
theorem dX7_isStanding_1 : decode cX7_isStanding 1 = .ok (.getfield 65, 3) := by decide +kernel
theorem dX7_isStanding_4 : decode cX7_isStanding 4 = .ok (.iload_n 1, 1) := by decide +kernel
theorem dX7_isStanding_5 : decode cX7_isStanding 5 = .ok (.aaload, 1) := by decide +kernel
theorem dX7_isStanding_6 : decode cX7_isStanding 6 = .ok (.iload_n 2, 1) := by decide +kernel
theorem dX7_isStanding_7 : decode cX7_isStanding 7 = .ok (.iaload, 1) := by decide +kernel
theorem dX7_isStanding_8 : decode cX7_isStanding 8 = .ok (.iconst (-1), 1) := by decide +kernel
theorem dX7_isStanding_9 : decode cX7_isStanding 9 = .ok (.if_icmp .eq 18, 3) := by decide +kernel
theorem dX7_isStanding_12 : decode cX7_isStanding 12 = .ok (.aload_n 0, 1) := by decide +kernel
theorem dX7_isStanding_13 : decode cX7_isStanding 13 = .ok (.getfield 70, 3) := by decide +kernel
theorem dX7_isStanding_16 : decode cX7_isStanding 16 = .ok (.iload_n 1, 1) := by decide +kernel
theorem dX7_isStanding_17 : decode cX7_isStanding 17 = .ok (.aaload, 1) := by decide +kernel
theorem dX7_isStanding_18 : decode cX7_isStanding 18 = .ok (.iload_n 2, 1) := by decide +kernel
theorem dX7_isStanding_19 : decode cX7_isStanding 19 = .ok (.baload, 1) := by decide +kernel
theorem dX7_isStanding_20 : decode cX7_isStanding 20 = .ok (.ifCond .ne 7, 3) := by decide +kernel
theorem dX7_isStanding_23 : decode cX7_isStanding 23 = .ok (.iconst 1, 1) := by decide +kernel
theorem dX7_isStanding_24 : decode cX7_isStanding 24 = .ok (.goto 4, 3) := by decide +kernel
theorem dX7_isStanding_27 : decode cX7_isStanding 27 = .ok (.iconst 0, 1) := by decide +kernel
theorem dX7_isStanding_28 : decode cX7_isStanding 28 = .ok (.ireturn, 1) := by decide +kernel
theorem dX7_begin_0 : decode cX7_begin 0 = .ok (.aload_n 0, 1) := by decide +kernel
theorem dX7_begin_1 : decode cX7_begin 1 = .ok (.aload_n 0, 1) := by decide +kernel
theorem dX7_begin_2 : decode cX7_begin 2 = .ok (.iload_n 1, 1) := by decide +kernel
theorem dX7_begin_3 : decode cX7_begin 3 = .ok (.invokevirtual 139, 3) := by decide +kernel
theorem dX7_begin_6 : decode cX7_begin 6 = .ok (.iconst 1, 1) := by decide +kernel
theorem dX7_begin_7 : decode cX7_begin 7 = .ok (.invokevirtual 94, 3) := by decide +kernel
theorem dX7_begin_10 : decode cX7_begin 10 = .ok (.ifCond .eq 5, 3) := by decide +kernel
theorem dX7_begin_13 : decode cX7_begin 13 = .ok (.iconst 0, 1) := by decide +kernel
theorem dX7_begin_14 : decode cX7_begin 14 = .ok (.ireturn, 1) := by decide +kernel
theorem dX7_begin_15 : decode cX7_begin 15 = .ok (.iconst 0, 1) := by decide +kernel
theorem dX7_begin_16 : decode cX7_begin 16 = .ok (.istore_n 2, 1) := by decide +kernel
theorem dX7_begin_17 : decode cX7_begin 17 = .ok (.iconst 0, 1) := by decide +kernel
theorem dX7_begin_18 : decode cX7_begin 18 = .ok (.istore_n 3, 1) := by decide +kernel
theorem dX7_begin_19 : decode cX7_begin 19 = .ok (.iconst 0, 1) := by decide +kernel
theorem dX7_begin_20 : decode cX7_begin 20 = .ok (.istore 4, 2) := by decide +kernel
theorem dX7_begin_22 : decode cX7_begin 22 = .ok (.iload 4, 2) := by decide +kernel
theorem dX7_begin_24 : decode cX7_begin 24 = .ok (.aload_n 0, 1) := by decide +kernel
theorem dX7_begin_25 : decode cX7_begin 25 = .ok (.getfield 80, 3) := by decide +kernel
theorem dX7_begin_28 : decode cX7_begin 28 = .ok (.if_icmp .ge 53, 3) := by decide +kernel
theorem dX7_begin_31 : decode cX7_begin 31 = .ok (.iload_n 2, 1) := by decide +kernel
theorem dX7_begin_32 : decode cX7_begin 32 = .ok (.aload_n 0, 1) := by decide +kernel
theorem dX7_begin_33 : decode cX7_begin 33 = .ok (.iload_n 1, 1) := by decide +kernel
theorem dX7_begin_34 : decode cX7_begin 34 = .ok (.iload 4, 2) := by decide +kernel
theorem dX7_begin_36 : decode cX7_begin 36 = .ok (.invokevirtual 149, 3) := by decide +kernel
theorem dX7_begin_39 : decode cX7_begin 39 = .ok (.ifCond .eq 7, 3) := by decide +kernel
theorem dX7_begin_42 : decode cX7_begin 42 = .ok (.iconst 1, 1) := by decide +kernel
theorem dX7_begin_43 : decode cX7_begin 43 = .ok (.goto 4, 3) := by decide +kernel
theorem dX7_begin_46 : decode cX7_begin 46 = .ok (.iconst 0, 1) := by decide +kernel
theorem dX7_begin_47 : decode cX7_begin 47 = .ok (.iadd, 1) := by decide +kernel
theorem dX7_begin_48 : decode cX7_begin 48 = .ok (.istore_n 2, 1) := by decide +kernel
theorem dX7_begin_49 : decode cX7_begin 49 = .ok (.iload_n 3, 1) := by decide +kernel
theorem dX7_begin_50 : decode cX7_begin 50 = .ok (.aload_n 0, 1) := by decide +kernel
theorem dX7_begin_51 : decode cX7_begin 51 = .ok (.iload_n 1, 1) := by decide +kernel
theorem dX7_begin_52 : decode cX7_begin 52 = .ok (.iload 4, 2) := by decide +kernel
theorem dX7_begin_54 : decode cX7_begin 54 = .ok (.invokevirtual 149, 3) := by decide +kernel
theorem dX7_begin_57 : decode cX7_begin 57 = .ok (.ifCond .eq 15, 3) := by decide +kernel
theorem dX7_begin_60 : decode cX7_begin 60 = .ok (.iconst 1, 1) := by decide +kernel
theorem dX7_begin_61 : decode cX7_begin 61 = .ok (.aload_n 0, 1) := by decide +kernel
theorem dX7_begin_62 : decode cX7_begin 62 = .ok (.getfield 9, 3) := by decide +kernel
theorem dX7_begin_65 : decode cX7_begin 65 = .ok (.iload 4, 2) := by decide +kernel
theorem dX7_begin_67 : decode cX7_begin 67 = .ok (.iaload, 1) := by decide +kernel
theorem dX7_begin_68 : decode cX7_begin 68 = .ok (.ishl, 1) := by decide +kernel
theorem dX7_begin_69 : decode cX7_begin 69 = .ok (.goto 4, 3) := by decide +kernel
theorem dX7_begin_72 : decode cX7_begin 72 = .ok (.iconst 0, 1) := by decide +kernel
theorem dX7_begin_73 : decode cX7_begin 73 = .ok (.ior, 1) := by decide +kernel
theorem dX7_begin_74 : decode cX7_begin 74 = .ok (.istore_n 3, 1) := by decide +kernel
theorem dX7_begin_75 : decode cX7_begin 75 = .ok (.iinc 4 1, 3) := by decide +kernel
theorem dX7_begin_78 : decode cX7_begin 78 = .ok (.goto (-56), 3) := by decide +kernel
theorem dX7_begin_81 : decode cX7_begin 81 = .ok (.aload_n 0, 1) := by decide +kernel
theorem dX7_begin_82 : decode cX7_begin 82 = .ok (.aload_n 0, 1) := by decide +kernel
theorem dX7_begin_83 : decode cX7_begin 83 = .ok (.getfield 59, 3) := by decide +kernel
theorem dX7_begin_86 : decode cX7_begin 86 = .ok (.iload_n 1, 1) := by decide +kernel
theorem dX7_begin_87 : decode cX7_begin 87 = .ok (.baload, 1) := by decide +kernel
theorem dX7_begin_88 : decode cX7_begin 88 = .ok (.ifCond .ne 16, 3) := by decide +kernel
theorem dX7_begin_91 : decode cX7_begin 91 = .ok (.iload_n 2, 1) := by decide +kernel
theorem dX7_begin_92 : decode cX7_begin 92 = .ok (.iconst 3, 1) := by decide +kernel
theorem dX7_begin_93 : decode cX7_begin 93 = .ok (.if_icmp .lt 11, 3) := by decide +kernel
theorem dX7_begin_96 : decode cX7_begin 96 = .ok (.iload_n 3, 1) := by decide +kernel
theorem dX7_begin_97 : decode cX7_begin 97 = .ok (.invokestatic 152, 3) := by decide +kernel
theorem dX7_begin_100 : decode cX7_begin 100 = .ok (.iconst 2, 1) := by decide +kernel
theorem dX7_begin_101 : decode cX7_begin 101 = .ok (.if_icmp .ge 7, 3) := by decide +kernel
theorem dX7_begin_104 : decode cX7_begin 104 = .ok (.iconst 1, 1) := by decide +kernel
theorem dX7_begin_105 : decode cX7_begin 105 = .ok (.goto 4, 3) := by decide +kernel
theorem dX7_begin_108 : decode cX7_begin 108 = .ok (.iconst 0, 1) := by decide +kernel
theorem dX7_begin_109 : decode cX7_begin 109 = .ok (.iconst 2, 1) := by decide +kernel
theorem dX7_begin_110 : decode cX7_begin 110 = .ok (.invokevirtual 94, 3) := by decide +kernel
theorem dX7_begin_113 : decode cX7_begin 113 = .ok (.ifCond .eq 5, 3) := by decide +kernel
theorem dX7_begin_116 : decode cX7_begin 116 = .ok (.iconst 0, 1) := by decide +kernel
theorem dX7_begin_117 : decode cX7_begin 117 = .ok (.ireturn, 1) := by decide +kernel
theorem dX7_begin_118 : decode cX7_begin 118 = .ok (.aload_n 0, 1) := by decide +kernel
theorem dX7_begin_119 : decode cX7_begin 119 = .ok (.getfield 59, 3) := by decide +kernel
theorem dX7_begin_122 : decode cX7_begin 122 = .ok (.iload_n 1, 1) := by decide +kernel
theorem dX7_begin_123 : decode cX7_begin 123 = .ok (.iconst 1, 1) := by decide +kernel
theorem dX7_begin_124 : decode cX7_begin 124 = .ok (.bastore, 1) := by decide +kernel
theorem dX7_begin_125 : decode cX7_begin 125 = .ok (.iload_n 2, 1) := by decide +kernel
theorem dX7_begin_126 : decode cX7_begin 126 = .ok (.ireturn, 1) := by decide +kernel
theorem dX7_result_0 : decode cX7_result 0 = .ok (.aload_n 0, 1) := by decide +kernel
theorem dX7_result_1 : decode cX7_result 1 = .ok (.aload_n 0, 1) := by decide +kernel
theorem dX7_result_2 : decode cX7_result 2 = .ok (.iload_n 1, 1) := by decide +kernel
theorem dX7_result_3 : decode cX7_result 3 = .ok (.iload_n 2, 1) := by decide +kernel
theorem dX7_result_4 : decode cX7_result 4 = .ok (.invokevirtual 146, 3) := by decide +kernel
theorem dX7_result_7 : decode cX7_result 7 = .ok (.iconst 1, 1) := by decide +kernel
theorem dX7_result_8 : decode cX7_result 8 = .ok (.invokevirtual 94, 3) := by decide +kernel
theorem dX7_result_11 : decode cX7_result 11 = .ok (.ifCond .eq 5, 3) := by decide +kernel
theorem dX7_result_14 : decode cX7_result 14 = .ok (.iconst 0, 1) := by decide +kernel
theorem dX7_result_15 : decode cX7_result 15 = .ok (.ireturn, 1) := by decide +kernel
theorem dX7_result_16 : decode cX7_result 16 = .ok (.aload_n 0, 1) := by decide +kernel
theorem dX7_result_17 : decode cX7_result 17 = .ok (.getfield 65, 3) := by decide +kernel
theorem dX7_result_20 : decode cX7_result 20 = .ok (.iload_n 1, 1) := by decide +kernel
theorem dX7_result_21 : decode cX7_result 21 = .ok (.aaload, 1) := by decide +kernel
theorem dX7_result_22 : decode cX7_result 22 = .ok (.iload_n 2, 1) := by decide +kernel
theorem dX7_result_23 : decode cX7_result 23 = .ok (.iaload, 1) := by decide +kernel
theorem dX7_result_24 : decode cX7_result 24 = .ok (.istore 5, 2) := by decide +kernel
theorem dX7_result_26 : decode cX7_result 26 = .ok (.iload 5, 2) := by decide +kernel
theorem dX7_result_28 : decode cX7_result 28 = .ok (.iconst (-1), 1) := by decide +kernel
theorem dX7_result_29 : decode cX7_result 29 = .ok (.if_icmp .eq 20, 3) := by decide +kernel
theorem dX7_result_32 : decode cX7_result 32 = .ok (.aload_n 0, 1) := by decide +kernel
theorem dX7_result_33 : decode cX7_result 33 = .ok (.getfield 44, 3) := by decide +kernel
theorem dX7_result_36 : decode cX7_result 36 = .ok (.iload 5, 2) := by decide +kernel
theorem dX7_result_38 : decode cX7_result 38 = .ok (.aaload, 1) := by decide +kernel
theorem dX7_result_39 : decode cX7_result 39 = .ok (.iconst 0, 1) := by decide +kernel
theorem dX7_result_40 : decode cX7_result 40 = .ok (.iaload, 1) := by decide +kernel
theorem dX7_result_41 : decode cX7_result 41 = .ok (.iconst 4, 1) := by decide +kernel
theorem dX7_result_42 : decode cX7_result 42 = .ok (.if_icmp .ne 7, 3) := by decide +kernel
theorem dX7_result_45 : decode cX7_result 45 = .ok (.iconst 1, 1) := by decide +kernel
theorem dX7_result_46 : decode cX7_result 46 = .ok (.goto 4, 3) := by decide +kernel
theorem dX7_result_49 : decode cX7_result 49 = .ok (.iconst 0, 1) := by decide +kernel
theorem dX7_result_50 : decode cX7_result 50 = .ok (.istore 6, 2) := by decide +kernel
theorem dX7_result_52 : decode cX7_result 52 = .ok (.aload_n 0, 1) := by decide +kernel
theorem dX7_result_53 : decode cX7_result 53 = .ok (.iload_n 3, 1) := by decide +kernel
theorem dX7_result_54 : decode cX7_result 54 = .ok (.iconst 1, 1) := by decide +kernel
theorem dX7_result_55 : decode cX7_result 55 = .ok (.ldc 158, 2) := by decide +kernel
theorem dX7_result_57 : decode cX7_result 57 = .ok (.invokestatic 83, 3) := by decide +kernel
theorem dX7_result_60 : decode cX7_result 60 = .ok (.ifCond .eq 19, 3) := by decide +kernel
theorem dX7_result_63 : decode cX7_result 63 = .ok (.iload 6, 2) := by decide +kernel
theorem dX7_result_65 : decode cX7_result 65 = .ok (.ifCond .eq 18, 3) := by decide +kernel
theorem dX7_result_68 : decode cX7_result 68 = .ok (.iload 4, 2) := by decide +kernel
theorem dX7_result_70 : decode cX7_result 70 = .ok (.iconst 1, 1) := by decide +kernel
theorem dX7_result_71 : decode cX7_result 71 = .ok (.ldc 158, 2) := by decide +kernel
theorem dX7_result_73 : decode cX7_result 73 = .ok (.invokestatic 83, 3) := by decide +kernel
theorem dX7_result_76 : decode cX7_result 76 = .ok (.ifCond .ne 7, 3) := by decide +kernel
theorem dX7_result_79 : decode cX7_result 79 = .ok (.iconst 1, 1) := by decide +kernel
theorem dX7_result_80 : decode cX7_result 80 = .ok (.goto 4, 3) := by decide +kernel
theorem dX7_result_83 : decode cX7_result 83 = .ok (.iconst 0, 1) := by decide +kernel
theorem dX7_result_84 : decode cX7_result 84 = .ok (.iconst 2, 1) := by decide +kernel
theorem dX7_result_85 : decode cX7_result 85 = .ok (.invokevirtual 94, 3) := by decide +kernel
theorem dX7_result_88 : decode cX7_result 88 = .ok (.ifCond .eq 5, 3) := by decide +kernel
theorem dX7_result_91 : decode cX7_result 91 = .ok (.iconst 0, 1) := by decide +kernel
theorem dX7_result_92 : decode cX7_result 92 = .ok (.ireturn, 1) := by decide +kernel
theorem dX7_result_93 : decode cX7_result 93 = .ok (.aload_n 0, 1) := by decide +kernel
theorem dX7_result_94 : decode cX7_result 94 = .ok (.aload_n 0, 1) := by decide +kernel
theorem dX7_result_95 : decode cX7_result 95 = .ok (.getfield 59, 3) := by decide +kernel
theorem dX7_result_98 : decode cX7_result 98 = .ok (.iload_n 1, 1) := by decide +kernel
theorem dX7_result_99 : decode cX7_result 99 = .ok (.baload, 1) := by decide +kernel
theorem dX7_result_100 : decode cX7_result 100 = .ok (.ifCond .eq 33, 3) := by decide +kernel
theorem dX7_result_103 : decode cX7_result 103 = .ok (.aload_n 0, 1) := by decide +kernel
theorem dX7_result_104 : decode cX7_result 104 = .ok (.getfield 62, 3) := by decide +kernel
theorem dX7_result_107 : decode cX7_result 107 = .ok (.iload_n 1, 1) := by decide +kernel
theorem dX7_result_108 : decode cX7_result 108 = .ok (.baload, 1) := by decide +kernel
theorem dX7_result_109 : decode cX7_result 109 = .ok (.ifCond .ne 24, 3) := by decide +kernel
theorem dX7_result_112 : decode cX7_result 112 = .ok (.aload_n 0, 1) := by decide +kernel
theorem dX7_result_113 : decode cX7_result 113 = .ok (.iload_n 1, 1) := by decide +kernel
theorem dX7_result_114 : decode cX7_result 114 = .ok (.iload_n 2, 1) := by decide +kernel
theorem dX7_result_115 : decode cX7_result 115 = .ok (.invokevirtual 149, 3) := by decide +kernel
theorem dX7_result_118 : decode cX7_result 118 = .ok (.ifCond .eq 15, 3) := by decide +kernel
theorem dX7_result_121 : decode cX7_result 121 = .ok (.aload_n 0, 1) := by decide +kernel
theorem dX7_result_122 : decode cX7_result 122 = .ok (.getfield 73, 3) := by decide +kernel
theorem dX7_result_125 : decode cX7_result 125 = .ok (.iload_n 1, 1) := by decide +kernel
theorem dX7_result_126 : decode cX7_result 126 = .ok (.aaload, 1) := by decide +kernel
theorem dX7_result_127 : decode cX7_result 127 = .ok (.iload_n 2, 1) := by decide +kernel
theorem dX7_result_128 : decode cX7_result 128 = .ok (.iaload, 1) := by decide +kernel
theorem dX7_result_129 : decode cX7_result 129 = .ok (.iconst (-1), 1) := by decide +kernel
theorem dX7_result_130 : decode cX7_result 130 = .ok (.if_icmp .eq 7, 3) := by decide +kernel
theorem dX7_result_133 : decode cX7_result 133 = .ok (.iconst 1, 1) := by decide +kernel
theorem dX7_result_134 : decode cX7_result 134 = .ok (.goto 4, 3) := by decide +kernel
theorem dX7_result_137 : decode cX7_result 137 = .ok (.iconst 0, 1) := by decide +kernel
theorem dX7_result_138 : decode cX7_result 138 = .ok (.iconst 3, 1) := by decide +kernel
theorem dX7_result_139 : decode cX7_result 139 = .ok (.invokevirtual 94, 3) := by decide +kernel
theorem dX7_result_142 : decode cX7_result 142 = .ok (.ifCond .eq 5, 3) := by decide +kernel
theorem dX7_result_145 : decode cX7_result 145 = .ok (.iconst 0, 1) := by decide +kernel
theorem dX7_result_146 : decode cX7_result 146 = .ok (.ireturn, 1) := by decide +kernel
theorem dX7_result_147 : decode cX7_result 147 = .ok (.iload 6, 2) := by decide +kernel
theorem dX7_result_149 : decode cX7_result 149 = .ok (.ifCond .eq 20, 3) := by decide +kernel
theorem dX7_result_152 : decode cX7_result 152 = .ok (.iload 4, 2) := by decide +kernel
theorem dX7_result_154 : decode cX7_result 154 = .ok (.iload_n 3, 1) := by decide +kernel
theorem dX7_result_155 : decode cX7_result 155 = .ok (.if_icmp .ge 14, 3) := by decide +kernel
theorem dX7_result_158 : decode cX7_result 158 = .ok (.aload_n 0, 1) := by decide +kernel
theorem dX7_result_159 : decode cX7_result 159 = .ok (.getfield 70, 3) := by decide +kernel
theorem dX7_result_162 : decode cX7_result 162 = .ok (.iload_n 1, 1) := by decide +kernel
theorem dX7_result_163 : decode cX7_result 163 = .ok (.aaload, 1) := by decide +kernel
theorem dX7_result_164 : decode cX7_result 164 = .ok (.iload_n 2, 1) := by decide +kernel
theorem dX7_result_165 : decode cX7_result 165 = .ok (.iconst 1, 1) := by decide +kernel
theorem dX7_result_166 : decode cX7_result 166 = .ok (.bastore, 1) := by decide +kernel
theorem dX7_result_167 : decode cX7_result 167 = .ok (.iconst (-1), 1) := by decide +kernel
theorem dX7_result_168 : decode cX7_result 168 = .ok (.ireturn, 1) := by decide +kernel
theorem dX7_result_169 : decode cX7_result 169 = .ok (.aload_n 0, 1) := by decide +kernel
theorem dX7_result_170 : decode cX7_result 170 = .ok (.getfield 73, 3) := by decide +kernel
theorem dX7_result_173 : decode cX7_result 173 = .ok (.iload_n 1, 1) := by decide +kernel
theorem dX7_result_174 : decode cX7_result 174 = .ok (.aaload, 1) := by decide +kernel
theorem dX7_result_175 : decode cX7_result 175 = .ok (.iload_n 2, 1) := by decide +kernel
theorem dX7_result_176 : decode cX7_result 176 = .ok (.iload_n 3, 1) := by decide +kernel
theorem dX7_result_177 : decode cX7_result 177 = .ok (.aload_n 0, 1) := by decide +kernel
theorem dX7_result_178 : decode cX7_result 178 = .ok (.getfield 56, 3) := by decide +kernel
theorem dX7_result_181 : decode cX7_result 181 = .ok (.iload_n 1, 1) := by decide +kernel
theorem dX7_result_182 : decode cX7_result 182 = .ok (.aaload, 1) := by decide +kernel
theorem dX7_result_183 : decode cX7_result 183 = .ok (.iload 5, 2) := by decide +kernel
theorem dX7_result_185 : decode cX7_result 185 = .ok (.iaload, 1) := by decide +kernel
theorem dX7_result_186 : decode cX7_result 186 = .ok (.imul, 1) := by decide +kernel
theorem dX7_result_187 : decode cX7_result 187 = .ok (.bipush 100, 2) := by decide +kernel
theorem dX7_result_189 : decode cX7_result 189 = .ok (.idiv, 1) := by decide +kernel
theorem dX7_result_190 : decode cX7_result 190 = .ok (.iastore, 1) := by decide +kernel
theorem dX7_result_191 : decode cX7_result 191 = .ok (.aload_n 0, 1) := by decide +kernel
theorem dX7_result_192 : decode cX7_result 192 = .ok (.getfield 28, 3) := by decide +kernel
theorem dX7_result_195 : decode cX7_result 195 = .ok (.iload_n 2, 1) := by decide +kernel
theorem dX7_result_196 : decode cX7_result 196 = .ok (.caload, 1) := by decide +kernel
theorem dX7_result_197 : decode cX7_result 197 = .ok (.bipush 99, 2) := by decide +kernel
theorem dX7_result_199 : decode cX7_result 199 = .ok (.if_icmp .ne 29, 3) := by decide +kernel
theorem dX7_result_202 : decode cX7_result 202 = .ok (.aload_n 0, 1) := by decide +kernel
theorem dX7_result_203 : decode cX7_result 203 = .ok (.getfield 47, 3) := by decide +kernel
theorem dX7_result_206 : decode cX7_result 206 = .ok (.iload 5, 2) := by decide +kernel
theorem dX7_result_208 : decode cX7_result 208 = .ok (.iaload, 1) := by decide +kernel
theorem dX7_result_209 : decode cX7_result 209 = .ok (.iconst (-1), 1) := by decide +kernel
theorem dX7_result_210 : decode cX7_result 210 = .ok (.if_icmp .eq 14, 3) := by decide +kernel
theorem dX7_result_213 : decode cX7_result 213 = .ok (.iload_n 3, 1) := by decide +kernel
theorem dX7_result_214 : decode cX7_result 214 = .ok (.aload_n 0, 1) := by decide +kernel
theorem dX7_result_215 : decode cX7_result 215 = .ok (.getfield 47, 3) := by decide +kernel
theorem dX7_result_218 : decode cX7_result 218 = .ok (.iload 5, 2) := by decide +kernel
theorem dX7_result_220 : decode cX7_result 220 = .ok (.iaload, 1) := by decide +kernel
theorem dX7_result_221 : decode cX7_result 221 = .ok (.if_icmp .ge 7, 3) := by decide +kernel
theorem dX7_result_224 : decode cX7_result 224 = .ok (.iconst 1, 1) := by decide +kernel
theorem dX7_result_225 : decode cX7_result 225 = .ok (.goto 4, 3) := by decide +kernel
theorem dX7_result_228 : decode cX7_result 228 = .ok (.iconst 0, 1) := by decide +kernel
theorem dX7_result_229 : decode cX7_result 229 = .ok (.istore 7, 2) := by decide +kernel
theorem dX7_result_231 : decode cX7_result 231 = .ok (.aload_n 0, 1) := by decide +kernel
theorem dX7_result_232 : decode cX7_result 232 = .ok (.getfield 47, 3) := by decide +kernel
theorem dX7_result_235 : decode cX7_result 235 = .ok (.iload 5, 2) := by decide +kernel
theorem dX7_result_237 : decode cX7_result 237 = .ok (.iload 7, 2) := by decide +kernel
theorem dX7_result_239 : decode cX7_result 239 = .ok (.ifCond .eq 7, 3) := by decide +kernel
theorem dX7_result_242 : decode cX7_result 242 = .ok (.iload_n 3, 1) := by decide +kernel
theorem dX7_result_243 : decode cX7_result 243 = .ok (.goto 10, 3) := by decide +kernel
theorem dX7_result_246 : decode cX7_result 246 = .ok (.aload_n 0, 1) := by decide +kernel
theorem dX7_result_247 : decode cX7_result 247 = .ok (.getfield 47, 3) := by decide +kernel
theorem dX7_result_250 : decode cX7_result 250 = .ok (.iload 5, 2) := by decide +kernel
theorem dX7_result_252 : decode cX7_result 252 = .ok (.iaload, 1) := by decide +kernel
theorem dX7_result_253 : decode cX7_result 253 = .ok (.iastore, 1) := by decide +kernel
theorem dX7_result_254 : decode cX7_result 254 = .ok (.aload_n 0, 1) := by decide +kernel
theorem dX7_result_255 : decode cX7_result 255 = .ok (.getfield 73, 3) := by decide +kernel
theorem dX7_result_258 : decode cX7_result 258 = .ok (.iload_n 1, 1) := by decide +kernel
theorem dX7_result_259 : decode cX7_result 259 = .ok (.aaload, 1) := by decide +kernel
theorem dX7_result_260 : decode cX7_result 260 = .ok (.iload_n 2, 1) := by decide +kernel
theorem dX7_result_261 : decode cX7_result 261 = .ok (.iaload, 1) := by decide +kernel
theorem dX7_result_262 : decode cX7_result 262 = .ok (.ireturn, 1) := by decide +kernel
theorem dX7_isNoEntry_0 : decode cX7_isNoEntry 0 = .ok (.aload_n 0, 1) := by decide +kernel
theorem dX7_isNoEntry_1 : decode cX7_isNoEntry 1 = .ok (.aload_n 0, 1) := by decide +kernel
theorem dX7_isNoEntry_2 : decode cX7_isNoEntry 2 = .ok (.iload_n 1, 1) := by decide +kernel
theorem dX7_isNoEntry_3 : decode cX7_isNoEntry 3 = .ok (.iload_n 2, 1) := by decide +kernel
theorem dX7_isNoEntry_4 : decode cX7_isNoEntry 4 = .ok (.invokevirtual 146, 3) := by decide +kernel
theorem dX7_isNoEntry_7 : decode cX7_isNoEntry 7 = .ok (.iconst 1, 1) := by decide +kernel
theorem dX7_isNoEntry_8 : decode cX7_isNoEntry 8 = .ok (.invokevirtual 94, 3) := by decide +kernel
theorem dX7_isNoEntry_11 : decode cX7_isNoEntry 11 = .ok (.ifCond .ne 28, 3) := by decide +kernel
theorem dX7_isNoEntry_14 : decode cX7_isNoEntry 14 = .ok (.aload_n 0, 1) := by decide +kernel
theorem dX7_isNoEntry_15 : decode cX7_isNoEntry 15 = .ok (.aload_n 0, 1) := by decide +kernel
theorem dX7_isNoEntry_16 : decode cX7_isNoEntry 16 = .ok (.getfield 65, 3) := by decide +kernel
theorem dX7_isNoEntry_19 : decode cX7_isNoEntry 19 = .ok (.iload_n 1, 1) := by decide +kernel
theorem dX7_isNoEntry_20 : decode cX7_isNoEntry 20 = .ok (.aaload, 1) := by decide +kernel
theorem dX7_isNoEntry_21 : decode cX7_isNoEntry 21 = .ok (.iload_n 2, 1) := by decide +kernel
theorem dX7_isNoEntry_22 : decode cX7_isNoEntry 22 = .ok (.iaload, 1) := by decide +kernel
theorem dX7_isNoEntry_23 : decode cX7_isNoEntry 23 = .ok (.iconst (-1), 1) := by decide +kernel
theorem dX7_isNoEntry_24 : decode cX7_isNoEntry 24 = .ok (.if_icmp .ne 7, 3) := by decide +kernel
theorem dX7_isNoEntry_27 : decode cX7_isNoEntry 27 = .ok (.iconst 1, 1) := by decide +kernel
theorem dX7_isNoEntry_28 : decode cX7_isNoEntry 28 = .ok (.goto 4, 3) := by decide +kernel
theorem dX7_isNoEntry_31 : decode cX7_isNoEntry 31 = .ok (.iconst 0, 1) := by decide +kernel
theorem dX7_isNoEntry_32 : decode cX7_isNoEntry 32 = .ok (.iconst 2, 1) := by decide +kernel
theorem dX7_isNoEntry_33 : decode cX7_isNoEntry 33 = .ok (.invokevirtual 94, 3) := by decide +kernel
theorem dX7_isNoEntry_36 : decode cX7_isNoEntry 36 = .ok (.ifCond .eq 7, 3) := by decide +kernel
theorem dX7_isNoEntry_39 : decode cX7_isNoEntry 39 = .ok (.iconst 1, 1) := by decide +kernel
theorem dX7_isNoEntry_40 : decode cX7_isNoEntry 40 = .ok (.goto 4, 3) := by decide +kernel
theorem dX7_isNoEntry_43 : decode cX7_isNoEntry 43 = .ok (.iconst 0, 1) := by decide +kernel
theorem dX7_isNoEntry_44 : decode cX7_isNoEntry 44 = .ok (.ireturn, 1) := by decide +kernel
theorem dX7_fell_0 : decode cX7_fell 0 = .ok (.aload_n 0, 1) := by decide +kernel
theorem dX7_fell_1 : decode cX7_fell 1 = .ok (.iload_n 1, 1) := by decide +kernel
theorem dX7_fell_2 : decode cX7_fell 2 = .ok (.iload_n 2, 1) := by decide +kernel
theorem dX7_fell_3 : decode cX7_fell 3 = .ok (.invokevirtual 159, 3) := by decide +kernel
theorem dX7_fell_6 : decode cX7_fell 6 = .ok (.ifCond .ne 18, 3) := by decide +kernel
theorem dX7_fell_9 : decode cX7_fell 9 = .ok (.aload_n 0, 1) := by decide +kernel
theorem dX7_fell_10 : decode cX7_fell 10 = .ok (.getfield 70, 3) := by decide +kernel
theorem dX7_fell_13 : decode cX7_fell 13 = .ok (.iload_n 1, 1) := by decide +kernel
theorem dX7_fell_14 : decode cX7_fell 14 = .ok (.aaload, 1) := by decide +kernel
theorem dX7_fell_15 : decode cX7_fell 15 = .ok (.iload_n 2, 1) := by decide +kernel
theorem dX7_fell_16 : decode cX7_fell 16 = .ok (.baload, 1) := by decide +kernel
theorem dX7_fell_17 : decode cX7_fell 17 = .ok (.ifCond .eq 7, 3) := by decide +kernel
theorem dX7_fell_20 : decode cX7_fell 20 = .ok (.iconst 1, 1) := by decide +kernel
theorem dX7_fell_21 : decode cX7_fell 21 = .ok (.goto 4, 3) := by decide +kernel
theorem dX7_fell_24 : decode cX7_fell 24 = .ok (.iconst 0, 1) := by decide +kernel
theorem dX7_fell_25 : decode cX7_fell 25 = .ok (.ireturn, 1) := by decide +kernel
theorem dX7_time_0 : decode cX7_time 0 = .ok (.aload_n 0, 1) := by decide +kernel
theorem dX7_time_1 : decode cX7_time 1 = .ok (.iload_n 1, 1) := by decide +kernel
theorem dX7_time_2 : decode cX7_time 2 = .ok (.iload_n 2, 1) := by decide +kernel
theorem dX7_time_3 : decode cX7_time 3 = .ok (.invokevirtual 159, 3) := by decide +kernel
theorem dX7_time_6 : decode cX7_time 6 = .ok (.ifCond .ne 28, 3) := by decide +kernel
theorem dX7_time_9 : decode cX7_time 9 = .ok (.aload_n 0, 1) := by decide +kernel
theorem dX7_time_10 : decode cX7_time 10 = .ok (.aload_n 0, 1) := by decide +kernel
theorem dX7_time_11 : decode cX7_time 11 = .ok (.getfield 73, 3) := by decide +kernel
theorem dX7_time_14 : decode cX7_time 14 = .ok (.iload_n 1, 1) := by decide +kernel
theorem dX7_time_15 : decode cX7_time 15 = .ok (.aaload, 1) := by decide +kernel
theorem dX7_time_16 : decode cX7_time 16 = .ok (.iload_n 2, 1) := by decide +kernel
theorem dX7_time_17 : decode cX7_time 17 = .ok (.iaload, 1) := by decide +kernel
theorem dX7_time_18 : decode cX7_time 18 = .ok (.iconst (-1), 1) := by decide +kernel
theorem dX7_time_19 : decode cX7_time 19 = .ok (.if_icmp .ne 7, 3) := by decide +kernel
theorem dX7_time_22 : decode cX7_time 22 = .ok (.iconst 1, 1) := by decide +kernel
theorem dX7_time_23 : decode cX7_time 23 = .ok (.goto 4, 3) := by decide +kernel
theorem dX7_time_26 : decode cX7_time 26 = .ok (.iconst 0, 1) := by decide +kernel
theorem dX7_time_27 : decode cX7_time 27 = .ok (.iconst 2, 1) := by decide +kernel
theorem dX7_time_28 : decode cX7_time 28 = .ok (.invokevirtual 94, 3) := by decide +kernel
theorem dX7_time_31 : decode cX7_time 31 = .ok (.ifCond .eq 7, 3) := by decide +kernel
theorem dX7_time_34 : decode cX7_time 34 = .ok (.iconst 0, 1) := by decide +kernel
theorem dX7_time_35 : decode cX7_time 35 = .ok (.goto 11, 3) := by decide +kernel
theorem dX7_time_38 : decode cX7_time 38 = .ok (.aload_n 0, 1) := by decide +kernel
theorem dX7_time_39 : decode cX7_time 39 = .ok (.getfield 73, 3) := by decide +kernel
theorem dX7_time_42 : decode cX7_time 42 = .ok (.iload_n 1, 1) := by decide +kernel
theorem dX7_time_43 : decode cX7_time 43 = .ok (.aaload, 1) := by decide +kernel
theorem dX7_time_44 : decode cX7_time 44 = .ok (.iload_n 2, 1) := by decide +kernel
theorem dX7_time_45 : decode cX7_time 45 = .ok (.iaload, 1) := by decide +kernel
theorem dX7_time_46 : decode cX7_time 46 = .ok (.ireturn, 1) := by decide +kernel
theorem dX7_inClass_0 : decode cX7_inClass 0 = .ok (.aload_n 0, 1) := by decide +kernel
theorem dX7_inClass_1 : decode cX7_inClass 1 = .ok (.iload_n 1, 1) := by decide +kernel
theorem dX7_inClass_2 : decode cX7_inClass 2 = .ok (.iload_n 2, 1) := by decide +kernel
theorem dX7_inClass_3 : decode cX7_inClass 3 = .ok (.invokevirtual 159, 3) := by decide +kernel
theorem dX7_inClass_6 : decode cX7_inClass 6 = .ok (.ifCond .eq 7, 3) := by decide +kernel
theorem dX7_inClass_9 : decode cX7_inClass 9 = .ok (.iconst 0, 1) := by decide +kernel
theorem dX7_inClass_10 : decode cX7_inClass 10 = .ok (.goto 11, 3) := by decide +kernel
theorem dX7_inClass_13 : decode cX7_inClass 13 = .ok (.aload_n 0, 1) := by decide +kernel
theorem dX7_inClass_14 : decode cX7_inClass 14 = .ok (.getfield 65, 3) := by decide +kernel
theorem dX7_inClass_17 : decode cX7_inClass 17 = .ok (.iload_n 1, 1) := by decide +kernel
theorem dX7_inClass_18 : decode cX7_inClass 18 = .ok (.aaload, 1) := by decide +kernel
theorem dX7_inClass_19 : decode cX7_inClass 19 = .ok (.iload_n 2, 1) := by decide +kernel
theorem dX7_inClass_20 : decode cX7_inClass 20 = .ok (.iaload, 1) := by decide +kernel
theorem dX7_inClass_21 : decode cX7_inClass 21 = .ok (.ireturn, 1) := by decide +kernel
theorem dX7_results_0 : decode cX7_results 0 = .ok (.iconst 0, 1) := by decide +kernel
theorem dX7_results_1 : decode cX7_results 1 = .ok (.istore_n 2, 1) := by decide +kernel
theorem dX7_results_2 : decode cX7_results 2 = .ok (.aload_n 0, 1) := by decide +kernel
theorem dX7_results_3 : decode cX7_results 3 = .ok (.getfield 73, 3) := by decide +kernel
theorem dX7_results_6 : decode cX7_results 6 = .ok (.iload_n 1, 1) := by decide +kernel
theorem dX7_results_7 : decode cX7_results 7 = .ok (.aaload, 1) := by decide +kernel
theorem dX7_results_8 : decode cX7_results 8 = .ok (.astore_n 3, 1) := by decide +kernel
theorem dX7_results_9 : decode cX7_results 9 = .ok (.aload_n 3, 1) := by decide +kernel
theorem dX7_results_10 : decode cX7_results 10 = .ok (.arraylength, 1) := by decide +kernel
theorem dX7_results_11 : decode cX7_results 11 = .ok (.istore 4, 2) := by decide +kernel
theorem dX7_results_13 : decode cX7_results 13 = .ok (.iconst 0, 1) := by decide +kernel
theorem dX7_results_14 : decode cX7_results 14 = .ok (.istore 5, 2) := by decide +kernel
theorem dX7_results_16 : decode cX7_results 16 = .ok (.iload 5, 2) := by decide +kernel
theorem dX7_results_18 : decode cX7_results 18 = .ok (.iload 4, 2) := by decide +kernel
theorem dX7_results_20 : decode cX7_results 20 = .ok (.if_icmp .ge 29, 3) := by decide +kernel
theorem dX7_results_23 : decode cX7_results 23 = .ok (.aload_n 3, 1) := by decide +kernel
theorem dX7_results_24 : decode cX7_results 24 = .ok (.iload 5, 2) := by decide +kernel
theorem dX7_results_26 : decode cX7_results 26 = .ok (.iaload, 1) := by decide +kernel
theorem dX7_results_27 : decode cX7_results 27 = .ok (.istore 6, 2) := by decide +kernel
theorem dX7_results_29 : decode cX7_results 29 = .ok (.iload_n 2, 1) := by decide +kernel
theorem dX7_results_30 : decode cX7_results 30 = .ok (.iload 6, 2) := by decide +kernel
theorem dX7_results_32 : decode cX7_results 32 = .ok (.iconst (-1), 1) := by decide +kernel
theorem dX7_results_33 : decode cX7_results 33 = .ok (.if_icmp .ne 7, 3) := by decide +kernel
theorem dX7_results_36 : decode cX7_results 36 = .ok (.iconst 0, 1) := by decide +kernel
theorem dX7_results_37 : decode cX7_results 37 = .ok (.goto 4, 3) := by decide +kernel
theorem dX7_results_40 : decode cX7_results 40 = .ok (.iconst 1, 1) := by decide +kernel
theorem dX7_results_41 : decode cX7_results 41 = .ok (.iadd, 1) := by decide +kernel
theorem dX7_results_42 : decode cX7_results 42 = .ok (.istore_n 2, 1) := by decide +kernel
theorem dX7_results_43 : decode cX7_results 43 = .ok (.iinc 5 1, 3) := by decide +kernel
theorem dX7_results_46 : decode cX7_results 46 = .ok (.goto (-30), 3) := by decide +kernel
theorem dX7_results_49 : decode cX7_results 49 = .ok (.iload_n 2, 1) := by decide +kernel
theorem dX7_results_50 : decode cX7_results 50 = .ok (.ireturn, 1) := by decide +kernel
theorem dX7_close_0 : decode cX7_close 0 = .ok (.aload_n 0, 1) := by decide +kernel
theorem dX7_close_1 : decode cX7_close 1 = .ok (.aload_n 0, 1) := by decide +kernel
theorem dX7_close_2 : decode cX7_close 2 = .ok (.iload_n 1, 1) := by decide +kernel
theorem dX7_close_3 : decode cX7_close 3 = .ok (.invokevirtual 139, 3) := by decide +kernel
theorem dX7_close_6 : decode cX7_close 6 = .ok (.iconst 1, 1) := by decide +kernel
theorem dX7_close_7 : decode cX7_close 7 = .ok (.invokevirtual 94, 3) := by decide +kernel
theorem dX7_close_10 : decode cX7_close 10 = .ok (.ifCond .ne 34, 3) := by decide +kernel
theorem dX7_close_13 : decode cX7_close 13 = .ok (.aload_n 0, 1) := by decide +kernel
theorem dX7_close_14 : decode cX7_close 14 = .ok (.aload_n 0, 1) := by decide +kernel
theorem dX7_close_15 : decode cX7_close 15 = .ok (.getfield 59, 3) := by decide +kernel
theorem dX7_close_18 : decode cX7_close 18 = .ok (.iload_n 1, 1) := by decide +kernel
theorem dX7_close_19 : decode cX7_close 19 = .ok (.baload, 1) := by decide +kernel
theorem dX7_close_20 : decode cX7_close 20 = .ok (.ifCond .eq 12, 3) := by decide +kernel
theorem dX7_close_23 : decode cX7_close 23 = .ok (.aload_n 0, 1) := by decide +kernel
theorem dX7_close_24 : decode cX7_close 24 = .ok (.getfield 62, 3) := by decide +kernel
theorem dX7_close_27 : decode cX7_close 27 = .ok (.iload_n 1, 1) := by decide +kernel
theorem dX7_close_28 : decode cX7_close 28 = .ok (.baload, 1) := by decide +kernel
theorem dX7_close_29 : decode cX7_close 29 = .ok (.ifCond .eq 7, 3) := by decide +kernel
theorem dX7_close_32 : decode cX7_close 32 = .ok (.iconst 1, 1) := by decide +kernel
theorem dX7_close_33 : decode cX7_close 33 = .ok (.goto 4, 3) := by decide +kernel
theorem dX7_close_36 : decode cX7_close 36 = .ok (.iconst 0, 1) := by decide +kernel
theorem dX7_close_37 : decode cX7_close 37 = .ok (.iconst 2, 1) := by decide +kernel
theorem dX7_close_38 : decode cX7_close 38 = .ok (.invokevirtual 94, 3) := by decide +kernel
theorem dX7_close_41 : decode cX7_close 41 = .ok (.ifCond .eq 5, 3) := by decide +kernel
theorem dX7_close_44 : decode cX7_close 44 = .ok (.iconst 0, 1) := by decide +kernel
theorem dX7_close_45 : decode cX7_close 45 = .ok (.ireturn, 1) := by decide +kernel
theorem dX7_close_46 : decode cX7_close 46 = .ok (.aload_n 0, 1) := by decide +kernel
theorem dX7_close_47 : decode cX7_close 47 = .ok (.getfield 62, 3) := by decide +kernel
theorem dX7_close_50 : decode cX7_close 50 = .ok (.iload_n 1, 1) := by decide +kernel
theorem dX7_close_51 : decode cX7_close 51 = .ok (.iconst 1, 1) := by decide +kernel
theorem dX7_close_52 : decode cX7_close 52 = .ok (.bastore, 1) := by decide +kernel
theorem dX7_close_53 : decode cX7_close 53 = .ok (.aload_n 0, 1) := by decide +kernel
theorem dX7_close_54 : decode cX7_close 54 = .ok (.iload_n 1, 1) := by decide +kernel
theorem dX7_close_55 : decode cX7_close 55 = .ok (.invokevirtual 162, 3) := by decide +kernel
theorem dX7_close_58 : decode cX7_close 58 = .ok (.ireturn, 1) := by decide +kernel
theorem dX7_aheadOf_0 : decode cX7_aheadOf 0 = .ok (.iconst 0, 1) := by decide +kernel
theorem dX7_aheadOf_1 : decode cX7_aheadOf 1 = .ok (.istore 4, 2) := by decide +kernel
theorem dX7_aheadOf_3 : decode cX7_aheadOf 3 = .ok (.iconst 0, 1) := by decide +kernel
theorem dX7_aheadOf_4 : decode cX7_aheadOf 4 = .ok (.istore 5, 2) := by decide +kernel
theorem dX7_aheadOf_6 : decode cX7_aheadOf 6 = .ok (.iload 5, 2) := by decide +kernel
theorem dX7_aheadOf_8 : decode cX7_aheadOf 8 = .ok (.aload_n 0, 1) := by decide +kernel
theorem dX7_aheadOf_9 : decode cX7_aheadOf 9 = .ok (.getfield 80, 3) := by decide +kernel
theorem dX7_aheadOf_12 : decode cX7_aheadOf 12 = .ok (.if_icmp .ge 102, 3) := by decide +kernel
theorem dX7_aheadOf_15 : decode cX7_aheadOf 15 = .ok (.aload_n 0, 1) := by decide +kernel
theorem dX7_aheadOf_16 : decode cX7_aheadOf 16 = .ok (.getfield 73, 3) := by decide +kernel
theorem dX7_aheadOf_19 : decode cX7_aheadOf 19 = .ok (.iload_n 1, 1) := by decide +kernel
theorem dX7_aheadOf_20 : decode cX7_aheadOf 20 = .ok (.aaload, 1) := by decide +kernel
theorem dX7_aheadOf_21 : decode cX7_aheadOf 21 = .ok (.iload 5, 2) := by decide +kernel
theorem dX7_aheadOf_23 : decode cX7_aheadOf 23 = .ok (.iaload, 1) := by decide +kernel
theorem dX7_aheadOf_24 : decode cX7_aheadOf 24 = .ok (.istore 6, 2) := by decide +kernel
theorem dX7_aheadOf_26 : decode cX7_aheadOf 26 = .ok (.iload 6, 2) := by decide +kernel
theorem dX7_aheadOf_28 : decode cX7_aheadOf 28 = .ok (.iconst (-1), 1) := by decide +kernel
theorem dX7_aheadOf_29 : decode cX7_aheadOf 29 = .ok (.if_icmp .eq 20, 3) := by decide +kernel
theorem dX7_aheadOf_32 : decode cX7_aheadOf 32 = .ok (.iload 6, 2) := by decide +kernel
theorem dX7_aheadOf_34 : decode cX7_aheadOf 34 = .ok (.aload_n 0, 1) := by decide +kernel
theorem dX7_aheadOf_35 : decode cX7_aheadOf 35 = .ok (.getfield 73, 3) := by decide +kernel
theorem dX7_aheadOf_38 : decode cX7_aheadOf 38 = .ok (.iload_n 1, 1) := by decide +kernel
theorem dX7_aheadOf_39 : decode cX7_aheadOf 39 = .ok (.aaload, 1) := by decide +kernel
theorem dX7_aheadOf_40 : decode cX7_aheadOf 40 = .ok (.iload_n 2, 1) := by decide +kernel
theorem dX7_aheadOf_41 : decode cX7_aheadOf 41 = .ok (.iaload, 1) := by decide +kernel
theorem dX7_aheadOf_42 : decode cX7_aheadOf 42 = .ok (.if_icmp .ge 7, 3) := by decide +kernel
theorem dX7_aheadOf_45 : decode cX7_aheadOf 45 = .ok (.iconst 1, 1) := by decide +kernel
theorem dX7_aheadOf_46 : decode cX7_aheadOf 46 = .ok (.goto 4, 3) := by decide +kernel
theorem dX7_aheadOf_49 : decode cX7_aheadOf 49 = .ok (.iconst 0, 1) := by decide +kernel
theorem dX7_aheadOf_50 : decode cX7_aheadOf 50 = .ok (.istore 7, 2) := by decide +kernel
theorem dX7_aheadOf_52 : decode cX7_aheadOf 52 = .ok (.iload_n 3, 1) := by decide +kernel
theorem dX7_aheadOf_53 : decode cX7_aheadOf 53 = .ok (.ifCond .eq 32, 3) := by decide +kernel
theorem dX7_aheadOf_56 : decode cX7_aheadOf 56 = .ok (.iload 6, 2) := by decide +kernel
theorem dX7_aheadOf_58 : decode cX7_aheadOf 58 = .ok (.iconst (-1), 1) := by decide +kernel
theorem dX7_aheadOf_59 : decode cX7_aheadOf 59 = .ok (.if_icmp .eq 26, 3) := by decide +kernel
theorem dX7_aheadOf_62 : decode cX7_aheadOf 62 = .ok (.iload 6, 2) := by decide +kernel
theorem dX7_aheadOf_64 : decode cX7_aheadOf 64 = .ok (.aload_n 0, 1) := by decide +kernel
theorem dX7_aheadOf_65 : decode cX7_aheadOf 65 = .ok (.getfield 73, 3) := by decide +kernel
theorem dX7_aheadOf_68 : decode cX7_aheadOf 68 = .ok (.iload_n 1, 1) := by decide +kernel
theorem dX7_aheadOf_69 : decode cX7_aheadOf 69 = .ok (.aaload, 1) := by decide +kernel
theorem dX7_aheadOf_70 : decode cX7_aheadOf 70 = .ok (.iload_n 2, 1) := by decide +kernel
theorem dX7_aheadOf_71 : decode cX7_aheadOf 71 = .ok (.iaload, 1) := by decide +kernel
theorem dX7_aheadOf_72 : decode cX7_aheadOf 72 = .ok (.if_icmp .ne 13, 3) := by decide +kernel
theorem dX7_aheadOf_75 : decode cX7_aheadOf 75 = .ok (.iload 5, 2) := by decide +kernel
theorem dX7_aheadOf_77 : decode cX7_aheadOf 77 = .ok (.iload_n 2, 1) := by decide +kernel
theorem dX7_aheadOf_78 : decode cX7_aheadOf 78 = .ok (.if_icmp .ge 7, 3) := by decide +kernel
theorem dX7_aheadOf_81 : decode cX7_aheadOf 81 = .ok (.iconst 1, 1) := by decide +kernel
theorem dX7_aheadOf_82 : decode cX7_aheadOf 82 = .ok (.goto 4, 3) := by decide +kernel
theorem dX7_aheadOf_85 : decode cX7_aheadOf 85 = .ok (.iconst 0, 1) := by decide +kernel
theorem dX7_aheadOf_86 : decode cX7_aheadOf 86 = .ok (.istore 8, 2) := by decide +kernel
theorem dX7_aheadOf_88 : decode cX7_aheadOf 88 = .ok (.iload 4, 2) := by decide +kernel
theorem dX7_aheadOf_90 : decode cX7_aheadOf 90 = .ok (.iload 7, 2) := by decide +kernel
theorem dX7_aheadOf_92 : decode cX7_aheadOf 92 = .ok (.ifCond .ne 8, 3) := by decide +kernel
theorem dX7_aheadOf_95 : decode cX7_aheadOf 95 = .ok (.iload 8, 2) := by decide +kernel
theorem dX7_aheadOf_97 : decode cX7_aheadOf 97 = .ok (.ifCond .eq 7, 3) := by decide +kernel
theorem dX7_aheadOf_100 : decode cX7_aheadOf 100 = .ok (.iconst 1, 1) := by decide +kernel
theorem dX7_aheadOf_101 : decode cX7_aheadOf 101 = .ok (.goto 4, 3) := by decide +kernel
theorem dX7_aheadOf_104 : decode cX7_aheadOf 104 = .ok (.iconst 0, 1) := by decide +kernel
theorem dX7_aheadOf_105 : decode cX7_aheadOf 105 = .ok (.iadd, 1) := by decide +kernel
theorem dX7_aheadOf_106 : decode cX7_aheadOf 106 = .ok (.istore 4, 2) := by decide +kernel
theorem dX7_aheadOf_108 : decode cX7_aheadOf 108 = .ok (.iinc 5 1, 3) := by decide +kernel
theorem dX7_aheadOf_111 : decode cX7_aheadOf 111 = .ok (.goto (-105), 3) := by decide +kernel
theorem dX7_aheadOf_114 : decode cX7_aheadOf 114 = .ok (.iload 4, 2) := by decide +kernel
theorem dX7_aheadOf_116 : decode cX7_aheadOf 116 = .ok (.ireturn, 1) := by decide +kernel
theorem dX7_athleteAt_0 : decode cX7_athleteAt 0 = .ok (.iconst (-1), 1) := by decide +kernel
theorem dX7_athleteAt_1 : decode cX7_athleteAt 1 = .ok (.istore_n 3, 1) := by decide +kernel
theorem dX7_athleteAt_2 : decode cX7_athleteAt 2 = .ok (.iconst 0, 1) := by decide +kernel
theorem dX7_athleteAt_3 : decode cX7_athleteAt 3 = .ok (.istore 4, 2) := by decide +kernel
theorem dX7_athleteAt_5 : decode cX7_athleteAt 5 = .ok (.iload 4, 2) := by decide +kernel
theorem dX7_athleteAt_7 : decode cX7_athleteAt 7 = .ok (.aload_n 0, 1) := by decide +kernel
theorem dX7_athleteAt_8 : decode cX7_athleteAt 8 = .ok (.getfield 80, 3) := by decide +kernel
theorem dX7_athleteAt_11 : decode cX7_athleteAt 11 = .ok (.if_icmp .ge 41, 3) := by decide +kernel
theorem dX7_athleteAt_14 : decode cX7_athleteAt 14 = .ok (.aload_n 0, 1) := by decide +kernel
theorem dX7_athleteAt_15 : decode cX7_athleteAt 15 = .ok (.getfield 73, 3) := by decide +kernel
theorem dX7_athleteAt_18 : decode cX7_athleteAt 18 = .ok (.iload_n 1, 1) := by decide +kernel
theorem dX7_athleteAt_19 : decode cX7_athleteAt 19 = .ok (.aaload, 1) := by decide +kernel
theorem dX7_athleteAt_20 : decode cX7_athleteAt 20 = .ok (.iload 4, 2) := by decide +kernel
theorem dX7_athleteAt_22 : decode cX7_athleteAt 22 = .ok (.iaload, 1) := by decide +kernel
theorem dX7_athleteAt_23 : decode cX7_athleteAt 23 = .ok (.iconst (-1), 1) := by decide +kernel
theorem dX7_athleteAt_24 : decode cX7_athleteAt 24 = .ok (.if_icmp .eq 20, 3) := by decide +kernel
theorem dX7_athleteAt_27 : decode cX7_athleteAt 27 = .ok (.aload_n 0, 1) := by decide +kernel
theorem dX7_athleteAt_28 : decode cX7_athleteAt 28 = .ok (.iload_n 1, 1) := by decide +kernel
theorem dX7_athleteAt_29 : decode cX7_athleteAt 29 = .ok (.iload 4, 2) := by decide +kernel
theorem dX7_athleteAt_31 : decode cX7_athleteAt 31 = .ok (.iconst 1, 1) := by decide +kernel
theorem dX7_athleteAt_32 : decode cX7_athleteAt 32 = .ok (.invokevirtual 165, 3) := by decide +kernel
theorem dX7_athleteAt_35 : decode cX7_athleteAt 35 = .ok (.iload_n 2, 1) := by decide +kernel
theorem dX7_athleteAt_36 : decode cX7_athleteAt 36 = .ok (.if_icmp .ne 8, 3) := by decide +kernel
theorem dX7_athleteAt_39 : decode cX7_athleteAt 39 = .ok (.iload 4, 2) := by decide +kernel
theorem dX7_athleteAt_41 : decode cX7_athleteAt 41 = .ok (.goto 4, 3) := by decide +kernel
theorem dX7_athleteAt_44 : decode cX7_athleteAt 44 = .ok (.iload_n 3, 1) := by decide +kernel
theorem dX7_athleteAt_45 : decode cX7_athleteAt 45 = .ok (.istore_n 3, 1) := by decide +kernel
theorem dX7_athleteAt_46 : decode cX7_athleteAt 46 = .ok (.iinc 4 1, 3) := by decide +kernel
theorem dX7_athleteAt_49 : decode cX7_athleteAt 49 = .ok (.goto (-44), 3) := by decide +kernel
theorem dX7_athleteAt_52 : decode cX7_athleteAt 52 = .ok (.iload_n 3, 1) := by decide +kernel
theorem dX7_athleteAt_53 : decode cX7_athleteAt 53 = .ok (.ireturn, 1) := by decide +kernel
theorem dX7_at_0 : decode cX7_at 0 = .ok (.aload_n 0, 1) := by decide +kernel
theorem dX7_at_1 : decode cX7_at 1 = .ok (.aload_n 0, 1) := by decide +kernel
theorem dX7_at_2 : decode cX7_at 2 = .ok (.iload_n 1, 1) := by decide +kernel
theorem dX7_at_3 : decode cX7_at 3 = .ok (.invokevirtual 139, 3) := by decide +kernel
theorem dX7_at_6 : decode cX7_at 6 = .ok (.iconst 1, 1) := by decide +kernel
theorem dX7_at_7 : decode cX7_at 7 = .ok (.invokevirtual 94, 3) := by decide +kernel
theorem dX7_at_10 : decode cX7_at 10 = .ok (.ifCond .eq 5, 3) := by decide +kernel
theorem dX7_at_13 : decode cX7_at 13 = .ok (.iconst 0, 1) := by decide +kernel
theorem dX7_at_14 : decode cX7_at 14 = .ok (.ireturn, 1) := by decide +kernel
theorem dX7_at_15 : decode cX7_at 15 = .ok (.aload_n 0, 1) := by decide +kernel
theorem dX7_at_16 : decode cX7_at 16 = .ok (.iload_n 1, 1) := by decide +kernel
theorem dX7_at_17 : decode cX7_at 17 = .ok (.iload_n 2, 1) := by decide +kernel
theorem dX7_at_18 : decode cX7_at 18 = .ok (.invokevirtual 169, 3) := by decide +kernel
theorem dX7_at_21 : decode cX7_at 21 = .ok (.istore_n 3, 1) := by decide +kernel
theorem dX7_at_22 : decode cX7_at 22 = .ok (.aload_n 0, 1) := by decide +kernel
theorem dX7_at_23 : decode cX7_at 23 = .ok (.iload_n 3, 1) := by decide +kernel
theorem dX7_at_24 : decode cX7_at 24 = .ok (.iconst (-1), 1) := by decide +kernel
theorem dX7_at_25 : decode cX7_at 25 = .ok (.if_icmp .ne 7, 3) := by decide +kernel
theorem dX7_at_28 : decode cX7_at 28 = .ok (.iconst 1, 1) := by decide +kernel
theorem dX7_at_29 : decode cX7_at 29 = .ok (.goto 4, 3) := by decide +kernel
theorem dX7_at_32 : decode cX7_at 32 = .ok (.iconst 0, 1) := by decide +kernel
theorem dX7_at_33 : decode cX7_at 33 = .ok (.iconst 2, 1) := by decide +kernel
theorem dX7_at_34 : decode cX7_at 34 = .ok (.invokevirtual 94, 3) := by decide +kernel
theorem dX7_at_37 : decode cX7_at 37 = .ok (.ifCond .eq 7, 3) := by decide +kernel
theorem dX7_at_40 : decode cX7_at 40 = .ok (.iconst 0, 1) := by decide +kernel
theorem dX7_at_41 : decode cX7_at 41 = .ok (.goto 4, 3) := by decide +kernel
theorem dX7_at_44 : decode cX7_at 44 = .ok (.iload_n 3, 1) := by decide +kernel
theorem dX7_at_45 : decode cX7_at 45 = .ok (.ireturn, 1) := by decide +kernel
theorem dX7_place_0 : decode cX7_place 0 = .ok (.aload_n 0, 1) := by decide +kernel
theorem dX7_place_1 : decode cX7_place 1 = .ok (.iload_n 1, 1) := by decide +kernel
theorem dX7_place_2 : decode cX7_place 2 = .ok (.iload_n 2, 1) := by decide +kernel
theorem dX7_place_3 : decode cX7_place 3 = .ok (.invokevirtual 159, 3) := by decide +kernel
theorem dX7_place_6 : decode cX7_place 6 = .ok (.ifCond .ne 28, 3) := by decide +kernel
theorem dX7_place_9 : decode cX7_place 9 = .ok (.aload_n 0, 1) := by decide +kernel
theorem dX7_place_10 : decode cX7_place 10 = .ok (.aload_n 0, 1) := by decide +kernel
theorem dX7_place_11 : decode cX7_place 11 = .ok (.getfield 73, 3) := by decide +kernel
theorem dX7_place_14 : decode cX7_place 14 = .ok (.iload_n 1, 1) := by decide +kernel
theorem dX7_place_15 : decode cX7_place 15 = .ok (.aaload, 1) := by decide +kernel
theorem dX7_place_16 : decode cX7_place 16 = .ok (.iload_n 2, 1) := by decide +kernel
theorem dX7_place_17 : decode cX7_place 17 = .ok (.iaload, 1) := by decide +kernel
theorem dX7_place_18 : decode cX7_place 18 = .ok (.iconst (-1), 1) := by decide +kernel
theorem dX7_place_19 : decode cX7_place 19 = .ok (.if_icmp .ne 7, 3) := by decide +kernel
theorem dX7_place_22 : decode cX7_place 22 = .ok (.iconst 1, 1) := by decide +kernel
theorem dX7_place_23 : decode cX7_place 23 = .ok (.goto 4, 3) := by decide +kernel
theorem dX7_place_26 : decode cX7_place 26 = .ok (.iconst 0, 1) := by decide +kernel
theorem dX7_place_27 : decode cX7_place 27 = .ok (.iconst 2, 1) := by decide +kernel
theorem dX7_place_28 : decode cX7_place 28 = .ok (.invokevirtual 94, 3) := by decide +kernel
theorem dX7_place_31 : decode cX7_place 31 = .ok (.ifCond .eq 7, 3) := by decide +kernel
theorem dX7_place_34 : decode cX7_place 34 = .ok (.iconst 0, 1) := by decide +kernel
theorem dX7_place_35 : decode cX7_place 35 = .ok (.goto 12, 3) := by decide +kernel
theorem dX7_place_38 : decode cX7_place 38 = .ok (.iconst 1, 1) := by decide +kernel
theorem dX7_place_39 : decode cX7_place 39 = .ok (.aload_n 0, 1) := by decide +kernel
theorem dX7_place_40 : decode cX7_place 40 = .ok (.iload_n 1, 1) := by decide +kernel
theorem dX7_place_41 : decode cX7_place 41 = .ok (.iload_n 2, 1) := by decide +kernel
theorem dX7_place_42 : decode cX7_place 42 = .ok (.iconst 0, 1) := by decide +kernel
theorem dX7_place_43 : decode cX7_place 43 = .ok (.invokevirtual 165, 3) := by decide +kernel
theorem dX7_place_46 : decode cX7_place 46 = .ok (.iadd, 1) := by decide +kernel
theorem dX7_place_47 : decode cX7_place 47 = .ok (.ireturn, 1) := by decide +kernel
theorem dX7_slot_0 : decode cX7_slot 0 = .ok (.aload_n 0, 1) := by decide +kernel
theorem dX7_slot_1 : decode cX7_slot 1 = .ok (.aload_n 0, 1) := by decide +kernel
theorem dX7_slot_2 : decode cX7_slot 2 = .ok (.iload_n 1, 1) := by decide +kernel
theorem dX7_slot_3 : decode cX7_slot 3 = .ok (.invokevirtual 139, 3) := by decide +kernel
theorem dX7_slot_6 : decode cX7_slot 6 = .ok (.iconst 1, 1) := by decide +kernel
theorem dX7_slot_7 : decode cX7_slot 7 = .ok (.invokevirtual 94, 3) := by decide +kernel
theorem dX7_slot_10 : decode cX7_slot 10 = .ok (.ifCond .ne 26, 3) := by decide +kernel
theorem dX7_slot_13 : decode cX7_slot 13 = .ok (.aload_n 0, 1) := by decide +kernel
theorem dX7_slot_14 : decode cX7_slot 14 = .ok (.iload_n 2, 1) := by decide +kernel
theorem dX7_slot_15 : decode cX7_slot 15 = .ok (.iconst 1, 1) := by decide +kernel
theorem dX7_slot_16 : decode cX7_slot 16 = .ok (.bipush 16, 2) := by decide +kernel
theorem dX7_slot_18 : decode cX7_slot 18 = .ok (.invokestatic 83, 3) := by decide +kernel
theorem dX7_slot_21 : decode cX7_slot 21 = .ok (.ifCond .ne 7, 3) := by decide +kernel
theorem dX7_slot_24 : decode cX7_slot 24 = .ok (.iconst 1, 1) := by decide +kernel
theorem dX7_slot_25 : decode cX7_slot 25 = .ok (.goto 4, 3) := by decide +kernel
theorem dX7_slot_28 : decode cX7_slot 28 = .ok (.iconst 0, 1) := by decide +kernel
theorem dX7_slot_29 : decode cX7_slot 29 = .ok (.iconst 2, 1) := by decide +kernel
theorem dX7_slot_30 : decode cX7_slot 30 = .ok (.invokevirtual 94, 3) := by decide +kernel
theorem dX7_slot_33 : decode cX7_slot 33 = .ok (.ifCond .eq 5, 3) := by decide +kernel
theorem dX7_slot_36 : decode cX7_slot 36 = .ok (.iconst 0, 1) := by decide +kernel
theorem dX7_slot_37 : decode cX7_slot 37 = .ok (.ireturn, 1) := by decide +kernel
theorem dX7_slot_38 : decode cX7_slot 38 = .ok (.bipush 6, 2) := by decide +kernel
theorem dX7_slot_40 : decode cX7_slot 40 = .ok (.newarray .int, 2) := by decide +kernel
theorem dX7_slot_42 : decode cX7_slot 42 = .ok (.astore 4, 2) := by decide +kernel
theorem dX7_slot_44 : decode cX7_slot 44 = .ok (.iconst 0, 1) := by decide +kernel
theorem dX7_slot_45 : decode cX7_slot 45 = .ok (.istore 5, 2) := by decide +kernel
theorem dX7_slot_47 : decode cX7_slot 47 = .ok (.iconst 0, 1) := by decide +kernel
theorem dX7_slot_48 : decode cX7_slot 48 = .ok (.istore 6, 2) := by decide +kernel
theorem dX7_slot_50 : decode cX7_slot 50 = .ok (.iload 6, 2) := by decide +kernel
theorem dX7_slot_52 : decode cX7_slot 52 = .ok (.aload_n 0, 1) := by decide +kernel
theorem dX7_slot_53 : decode cX7_slot 53 = .ok (.iload_n 1, 1) := by decide +kernel
theorem dX7_slot_54 : decode cX7_slot 54 = .ok (.invokevirtual 162, 3) := by decide +kernel
theorem dX7_slot_57 : decode cX7_slot 57 = .ok (.if_icmp .ge 69, 3) := by decide +kernel
theorem dX7_slot_60 : decode cX7_slot 60 = .ok (.iload 5, 2) := by decide +kernel
theorem dX7_slot_62 : decode cX7_slot 62 = .ok (.iload_n 2, 1) := by decide +kernel
theorem dX7_slot_63 : decode cX7_slot 63 = .ok (.if_icmp .ge 63, 3) := by decide +kernel
theorem dX7_slot_66 : decode cX7_slot 66 = .ok (.aload_n 0, 1) := by decide +kernel
theorem dX7_slot_67 : decode cX7_slot 67 = .ok (.iload_n 1, 1) := by decide +kernel
theorem dX7_slot_68 : decode cX7_slot 68 = .ok (.iload 6, 2) := by decide +kernel
theorem dX7_slot_70 : decode cX7_slot 70 = .ok (.invokevirtual 169, 3) := by decide +kernel
theorem dX7_slot_73 : decode cX7_slot 73 = .ok (.istore 7, 2) := by decide +kernel
theorem dX7_slot_75 : decode cX7_slot 75 = .ok (.aload 4, 2) := by decide +kernel
theorem dX7_slot_77 : decode cX7_slot 77 = .ok (.aload_n 0, 1) := by decide +kernel
theorem dX7_slot_78 : decode cX7_slot 78 = .ok (.getfield 9, 3) := by decide +kernel
theorem dX7_slot_81 : decode cX7_slot 81 = .ok (.iload 7, 2) := by decide +kernel
theorem dX7_slot_83 : decode cX7_slot 83 = .ok (.iaload, 1) := by decide +kernel
theorem dX7_slot_84 : decode cX7_slot 84 = .ok (.iaload, 1) := by decide +kernel
theorem dX7_slot_85 : decode cX7_slot 85 = .ok (.iconst 2, 1) := by decide +kernel
theorem dX7_slot_86 : decode cX7_slot 86 = .ok (.if_icmp .ge 34, 3) := by decide +kernel
theorem dX7_slot_89 : decode cX7_slot 89 = .ok (.aload 4, 2) := by decide +kernel
theorem dX7_slot_91 : decode cX7_slot 91 = .ok (.aload_n 0, 1) := by decide +kernel
theorem dX7_slot_92 : decode cX7_slot 92 = .ok (.getfield 9, 3) := by decide +kernel
theorem dX7_slot_95 : decode cX7_slot 95 = .ok (.iload 7, 2) := by decide +kernel
theorem dX7_slot_97 : decode cX7_slot 97 = .ok (.iaload, 1) := by decide +kernel
theorem dX7_slot_98 : decode cX7_slot 98 = .ok (.dup2, 1) := by decide +kernel
theorem dX7_slot_99 : decode cX7_slot 99 = .ok (.iaload, 1) := by decide +kernel
theorem dX7_slot_100 : decode cX7_slot 100 = .ok (.iconst 1, 1) := by decide +kernel
theorem dX7_slot_101 : decode cX7_slot 101 = .ok (.iadd, 1) := by decide +kernel
theorem dX7_slot_102 : decode cX7_slot 102 = .ok (.iastore, 1) := by decide +kernel
theorem dX7_slot_103 : decode cX7_slot 103 = .ok (.iload 5, 2) := by decide +kernel
theorem dX7_slot_105 : decode cX7_slot 105 = .ok (.iload_n 3, 1) := by decide +kernel
theorem dX7_slot_106 : decode cX7_slot 106 = .ok (.if_icmp .ne 11, 3) := by decide +kernel
theorem dX7_slot_109 : decode cX7_slot 109 = .ok (.aload_n 0, 1) := by decide +kernel
theorem dX7_slot_110 : decode cX7_slot 110 = .ok (.iconst 0, 1) := by decide +kernel
theorem dX7_slot_111 : decode cX7_slot 111 = .ok (.putfield 76, 3) := by decide +kernel
theorem dX7_slot_114 : decode cX7_slot 114 = .ok (.iload 7, 2) := by decide +kernel
theorem dX7_slot_116 : decode cX7_slot 116 = .ok (.ireturn, 1) := by decide +kernel
theorem dX7_slot_117 : decode cX7_slot 117 = .ok (.iinc 5 1, 3) := by decide +kernel
theorem dX7_slot_120 : decode cX7_slot 120 = .ok (.iinc 6 1, 3) := by decide +kernel
theorem dX7_slot_123 : decode cX7_slot 123 = .ok (.goto (-73), 3) := by decide +kernel
theorem dX7_slot_126 : decode cX7_slot 126 = .ok (.aload_n 0, 1) := by decide +kernel
theorem dX7_slot_127 : decode cX7_slot 127 = .ok (.iconst 3, 1) := by decide +kernel
theorem dX7_slot_128 : decode cX7_slot 128 = .ok (.putfield 76, 3) := by decide +kernel
theorem dX7_slot_131 : decode cX7_slot 131 = .ok (.iconst 0, 1) := by decide +kernel
theorem dX7_slot_132 : decode cX7_slot 132 = .ok (.ireturn, 1) := by decide +kernel
theorem dX7_record_0 : decode cX7_record 0 = .ok (.aload_n 0, 1) := by decide +kernel
theorem dX7_record_1 : decode cX7_record 1 = .ok (.aload_n 0, 1) := by decide +kernel
theorem dX7_record_2 : decode cX7_record 2 = .ok (.iload_n 1, 1) := by decide +kernel
theorem dX7_record_3 : decode cX7_record 3 = .ok (.invokevirtual 136, 3) := by decide +kernel
theorem dX7_record_6 : decode cX7_record 6 = .ok (.iconst 1, 1) := by decide +kernel
theorem dX7_record_7 : decode cX7_record 7 = .ok (.invokevirtual 94, 3) := by decide +kernel
theorem dX7_record_10 : decode cX7_record 10 = .ok (.ifCond .ne 26, 3) := by decide +kernel
theorem dX7_record_13 : decode cX7_record 13 = .ok (.aload_n 0, 1) := by decide +kernel
theorem dX7_record_14 : decode cX7_record 14 = .ok (.aload_n 0, 1) := by decide +kernel
theorem dX7_record_15 : decode cX7_record 15 = .ok (.getfield 47, 3) := by decide +kernel
theorem dX7_record_18 : decode cX7_record 18 = .ok (.iload_n 1, 1) := by decide +kernel
theorem dX7_record_19 : decode cX7_record 19 = .ok (.iaload, 1) := by decide +kernel
theorem dX7_record_20 : decode cX7_record 20 = .ok (.iconst (-1), 1) := by decide +kernel
theorem dX7_record_21 : decode cX7_record 21 = .ok (.if_icmp .ne 7, 3) := by decide +kernel
theorem dX7_record_24 : decode cX7_record 24 = .ok (.iconst 1, 1) := by decide +kernel
theorem dX7_record_25 : decode cX7_record 25 = .ok (.goto 4, 3) := by decide +kernel
theorem dX7_record_28 : decode cX7_record 28 = .ok (.iconst 0, 1) := by decide +kernel
theorem dX7_record_29 : decode cX7_record 29 = .ok (.iconst 2, 1) := by decide +kernel
theorem dX7_record_30 : decode cX7_record 30 = .ok (.invokevirtual 94, 3) := by decide +kernel
theorem dX7_record_33 : decode cX7_record 33 = .ok (.ifCond .eq 7, 3) := by decide +kernel
theorem dX7_record_36 : decode cX7_record 36 = .ok (.iconst 0, 1) := by decide +kernel
theorem dX7_record_37 : decode cX7_record 37 = .ok (.goto 9, 3) := by decide +kernel
theorem dX7_record_40 : decode cX7_record 40 = .ok (.aload_n 0, 1) := by decide +kernel
theorem dX7_record_41 : decode cX7_record 41 = .ok (.getfield 47, 3) := by decide +kernel
theorem dX7_record_44 : decode cX7_record 44 = .ok (.iload_n 1, 1) := by decide +kernel
theorem dX7_record_45 : decode cX7_record 45 = .ok (.iaload, 1) := by decide +kernel
theorem dX7_record_46 : decode cX7_record 46 = .ok (.ireturn, 1) := by decide +kernel
theorem dX7_pointsOf_0 : decode cX7_pointsOf 0 = .ok (.iconst 0, 1) := by decide +kernel
theorem dX7_pointsOf_1 : decode cX7_pointsOf 1 = .ok (.istore_n 2, 1) := by decide +kernel
theorem dX7_pointsOf_2 : decode cX7_pointsOf 2 = .ok (.iconst 0, 1) := by decide +kernel
theorem dX7_pointsOf_3 : decode cX7_pointsOf 3 = .ok (.istore_n 3, 1) := by decide +kernel
theorem dX7_pointsOf_4 : decode cX7_pointsOf 4 = .ok (.iload_n 3, 1) := by decide +kernel
theorem dX7_pointsOf_5 : decode cX7_pointsOf 5 = .ok (.aload_n 0, 1) := by decide +kernel
theorem dX7_pointsOf_6 : decode cX7_pointsOf 6 = .ok (.getfield 80, 3) := by decide +kernel
theorem dX7_pointsOf_9 : decode cX7_pointsOf 9 = .ok (.if_icmp .ge 33, 3) := by decide +kernel
theorem dX7_pointsOf_12 : decode cX7_pointsOf 12 = .ok (.iload_n 2, 1) := by decide +kernel
theorem dX7_pointsOf_13 : decode cX7_pointsOf 13 = .ok (.iload_n 1, 1) := by decide +kernel
theorem dX7_pointsOf_14 : decode cX7_pointsOf 14 = .ok (.iload_n 3, 1) := by decide +kernel
theorem dX7_pointsOf_15 : decode cX7_pointsOf 15 = .ok (.ishr, 1) := by decide +kernel
theorem dX7_pointsOf_16 : decode cX7_pointsOf 16 = .ok (.iconst 1, 1) := by decide +kernel
theorem dX7_pointsOf_17 : decode cX7_pointsOf 17 = .ok (.iand, 1) := by decide +kernel
theorem dX7_pointsOf_18 : decode cX7_pointsOf 18 = .ok (.iconst 1, 1) := by decide +kernel
theorem dX7_pointsOf_19 : decode cX7_pointsOf 19 = .ok (.if_icmp .ne 14, 3) := by decide +kernel
theorem dX7_pointsOf_22 : decode cX7_pointsOf 22 = .ok (.aload_n 0, 1) := by decide +kernel
theorem dX7_pointsOf_23 : decode cX7_pointsOf 23 = .ok (.getfield 32, 3) := by decide +kernel
theorem dX7_pointsOf_26 : decode cX7_pointsOf 26 = .ok (.iload_n 3, 1) := by decide +kernel
theorem dX7_pointsOf_27 : decode cX7_pointsOf 27 = .ok (.iaload, 1) := by decide +kernel
theorem dX7_pointsOf_28 : decode cX7_pointsOf 28 = .ok (.iconst 1, 1) := by decide +kernel
theorem dX7_pointsOf_29 : decode cX7_pointsOf 29 = .ok (.iadd, 1) := by decide +kernel
theorem dX7_pointsOf_30 : decode cX7_pointsOf 30 = .ok (.goto 4, 3) := by decide +kernel
theorem dX7_pointsOf_33 : decode cX7_pointsOf 33 = .ok (.iconst 0, 1) := by decide +kernel
theorem dX7_pointsOf_34 : decode cX7_pointsOf 34 = .ok (.iadd, 1) := by decide +kernel
theorem dX7_pointsOf_35 : decode cX7_pointsOf 35 = .ok (.istore_n 2, 1) := by decide +kernel
theorem dX7_pointsOf_36 : decode cX7_pointsOf 36 = .ok (.iinc 3 1, 3) := by decide +kernel
theorem dX7_pointsOf_39 : decode cX7_pointsOf 39 = .ok (.goto (-35), 3) := by decide +kernel
theorem dX7_pointsOf_42 : decode cX7_pointsOf 42 = .ok (.iload_n 2, 1) := by decide +kernel
theorem dX7_pointsOf_43 : decode cX7_pointsOf 43 = .ok (.ireturn, 1) := by decide +kernel
theorem dX7_floorOf_0 : decode cX7_floorOf 0 = .ok (.iconst 0, 1) := by decide +kernel
theorem dX7_floorOf_1 : decode cX7_floorOf 1 = .ok (.istore_n 2, 1) := by decide +kernel
theorem dX7_floorOf_2 : decode cX7_floorOf 2 = .ok (.iconst 0, 1) := by decide +kernel
theorem dX7_floorOf_3 : decode cX7_floorOf 3 = .ok (.istore_n 3, 1) := by decide +kernel
theorem dX7_floorOf_4 : decode cX7_floorOf 4 = .ok (.iload_n 3, 1) := by decide +kernel
theorem dX7_floorOf_5 : decode cX7_floorOf 5 = .ok (.aload_n 0, 1) := by decide +kernel
theorem dX7_floorOf_6 : decode cX7_floorOf 6 = .ok (.getfield 80, 3) := by decide +kernel
theorem dX7_floorOf_9 : decode cX7_floorOf 9 = .ok (.if_icmp .ge 38, 3) := by decide +kernel
theorem dX7_floorOf_12 : decode cX7_floorOf 12 = .ok (.iload_n 2, 1) := by decide +kernel
theorem dX7_floorOf_13 : decode cX7_floorOf 13 = .ok (.aload_n 0, 1) := by decide +kernel
theorem dX7_floorOf_14 : decode cX7_floorOf 14 = .ok (.getfield 9, 3) := by decide +kernel
theorem dX7_floorOf_17 : decode cX7_floorOf 17 = .ok (.iload_n 3, 1) := by decide +kernel
theorem dX7_floorOf_18 : decode cX7_floorOf 18 = .ok (.iaload, 1) := by decide +kernel
theorem dX7_floorOf_19 : decode cX7_floorOf 19 = .ok (.iload_n 1, 1) := by decide +kernel
theorem dX7_floorOf_20 : decode cX7_floorOf 20 = .ok (.if_icmp .ne 18, 3) := by decide +kernel
theorem dX7_floorOf_23 : decode cX7_floorOf 23 = .ok (.aload_n 0, 1) := by decide +kernel
theorem dX7_floorOf_24 : decode cX7_floorOf 24 = .ok (.getfield 38, 3) := by decide +kernel
theorem dX7_floorOf_27 : decode cX7_floorOf 27 = .ok (.iload_n 3, 1) := by decide +kernel
theorem dX7_floorOf_28 : decode cX7_floorOf 28 = .ok (.baload, 1) := by decide +kernel
theorem dX7_floorOf_29 : decode cX7_floorOf 29 = .ok (.ifCond .eq 9, 3) := by decide +kernel
theorem dX7_floorOf_32 : decode cX7_floorOf 32 = .ok (.iconst 1, 1) := by decide +kernel
theorem dX7_floorOf_33 : decode cX7_floorOf 33 = .ok (.iload_n 3, 1) := by decide +kernel
theorem dX7_floorOf_34 : decode cX7_floorOf 34 = .ok (.ishl, 1) := by decide +kernel
theorem dX7_floorOf_35 : decode cX7_floorOf 35 = .ok (.goto 4, 3) := by decide +kernel
theorem dX7_floorOf_38 : decode cX7_floorOf 38 = .ok (.iconst 0, 1) := by decide +kernel
theorem dX7_floorOf_39 : decode cX7_floorOf 39 = .ok (.ior, 1) := by decide +kernel
theorem dX7_floorOf_40 : decode cX7_floorOf 40 = .ok (.istore_n 2, 1) := by decide +kernel
theorem dX7_floorOf_41 : decode cX7_floorOf 41 = .ok (.iinc 3 1, 3) := by decide +kernel
theorem dX7_floorOf_44 : decode cX7_floorOf 44 = .ok (.goto (-40), 3) := by decide +kernel
theorem dX7_floorOf_47 : decode cX7_floorOf 47 = .ok (.iload_n 2, 1) := by decide +kernel
theorem dX7_floorOf_48 : decode cX7_floorOf 48 = .ok (.ireturn, 1) := by decide +kernel
theorem dX7_isTooMuch_0 : decode cX7_isTooMuch 0 = .ok (.aload_n 0, 1) := by decide +kernel
theorem dX7_isTooMuch_1 : decode cX7_isTooMuch 1 = .ok (.iload_n 1, 1) := by decide +kernel
theorem dX7_isTooMuch_2 : decode cX7_isTooMuch 2 = .ok (.invokevirtual 172, 3) := by decide +kernel
theorem dX7_isTooMuch_5 : decode cX7_isTooMuch 5 = .ok (.bipush 12, 2) := by decide +kernel
theorem dX7_isTooMuch_7 : decode cX7_isTooMuch 7 = .ok (.if_icmp .le 7, 3) := by decide +kernel
theorem dX7_isTooMuch_10 : decode cX7_isTooMuch 10 = .ok (.iconst 1, 1) := by decide +kernel
theorem dX7_isTooMuch_11 : decode cX7_isTooMuch 11 = .ok (.goto 4, 3) := by decide +kernel
theorem dX7_isTooMuch_14 : decode cX7_isTooMuch 14 = .ok (.iconst 0, 1) := by decide +kernel
theorem dX7_isTooMuch_15 : decode cX7_isTooMuch 15 = .ok (.istore_n 2, 1) := by decide +kernel
theorem dX7_isTooMuch_16 : decode cX7_isTooMuch 16 = .ok (.iconst 0, 1) := by decide +kernel
theorem dX7_isTooMuch_17 : decode cX7_isTooMuch 17 = .ok (.istore_n 3, 1) := by decide +kernel
theorem dX7_isTooMuch_18 : decode cX7_isTooMuch 18 = .ok (.iload_n 3, 1) := by decide +kernel
theorem dX7_isTooMuch_19 : decode cX7_isTooMuch 19 = .ok (.aload_n 0, 1) := by decide +kernel
theorem dX7_isTooMuch_20 : decode cX7_isTooMuch 20 = .ok (.getfield 80, 3) := by decide +kernel
theorem dX7_isTooMuch_23 : decode cX7_isTooMuch 23 = .ok (.if_icmp .ge 36, 3) := by decide +kernel
theorem dX7_isTooMuch_26 : decode cX7_isTooMuch 26 = .ok (.iload_n 2, 1) := by decide +kernel
theorem dX7_isTooMuch_27 : decode cX7_isTooMuch 27 = .ok (.iload_n 1, 1) := by decide +kernel
theorem dX7_isTooMuch_28 : decode cX7_isTooMuch 28 = .ok (.iload_n 3, 1) := by decide +kernel
theorem dX7_isTooMuch_29 : decode cX7_isTooMuch 29 = .ok (.ishr, 1) := by decide +kernel
theorem dX7_isTooMuch_30 : decode cX7_isTooMuch 30 = .ok (.iconst 1, 1) := by decide +kernel
theorem dX7_isTooMuch_31 : decode cX7_isTooMuch 31 = .ok (.iand, 1) := by decide +kernel
theorem dX7_isTooMuch_32 : decode cX7_isTooMuch 32 = .ok (.iconst 1, 1) := by decide +kernel
theorem dX7_isTooMuch_33 : decode cX7_isTooMuch 33 = .ok (.if_icmp .ne 17, 3) := by decide +kernel
theorem dX7_isTooMuch_36 : decode cX7_isTooMuch 36 = .ok (.aload_n 0, 1) := by decide +kernel
theorem dX7_isTooMuch_37 : decode cX7_isTooMuch 37 = .ok (.getfield 32, 3) := by decide +kernel
theorem dX7_isTooMuch_40 : decode cX7_isTooMuch 40 = .ok (.iload_n 3, 1) := by decide +kernel
theorem dX7_isTooMuch_41 : decode cX7_isTooMuch 41 = .ok (.iaload, 1) := by decide +kernel
theorem dX7_isTooMuch_42 : decode cX7_isTooMuch 42 = .ok (.iconst (-1), 1) := by decide +kernel
theorem dX7_isTooMuch_43 : decode cX7_isTooMuch 43 = .ok (.if_icmp .ne 7, 3) := by decide +kernel
theorem dX7_isTooMuch_46 : decode cX7_isTooMuch 46 = .ok (.iconst 1, 1) := by decide +kernel
theorem dX7_isTooMuch_47 : decode cX7_isTooMuch 47 = .ok (.goto 4, 3) := by decide +kernel
theorem dX7_isTooMuch_50 : decode cX7_isTooMuch 50 = .ok (.iconst 0, 1) := by decide +kernel
theorem dX7_isTooMuch_51 : decode cX7_isTooMuch 51 = .ok (.ior, 1) := by decide +kernel
theorem dX7_isTooMuch_52 : decode cX7_isTooMuch 52 = .ok (.istore_n 2, 1) := by decide +kernel
theorem dX7_isTooMuch_53 : decode cX7_isTooMuch 53 = .ok (.iinc 3 1, 3) := by decide +kernel
theorem dX7_isTooMuch_56 : decode cX7_isTooMuch 56 = .ok (.goto (-38), 3) := by decide +kernel
theorem dX7_isTooMuch_59 : decode cX7_isTooMuch 59 = .ok (.iload_n 2, 1) := by decide +kernel
theorem dX7_isTooMuch_60 : decode cX7_isTooMuch 60 = .ok (.ireturn, 1) := by decide +kernel
theorem dX7_puts_0 : decode cX7_puts 0 = .ok (.iconst 0, 1) := by decide +kernel
theorem dX7_puts_1 : decode cX7_puts 1 = .ok (.istore_n 3, 1) := by decide +kernel
theorem dX7_puts_2 : decode cX7_puts 2 = .ok (.iload_n 3, 1) := by decide +kernel
theorem dX7_puts_3 : decode cX7_puts 3 = .ok (.aload_n 0, 1) := by decide +kernel
theorem dX7_puts_4 : decode cX7_puts 4 = .ok (.getfield 80, 3) := by decide +kernel
theorem dX7_puts_7 : decode cX7_puts 7 = .ok (.if_icmp .ge 48, 3) := by decide +kernel
theorem dX7_puts_10 : decode cX7_puts 10 = .ok (.aload_n 0, 1) := by decide +kernel
theorem dX7_puts_11 : decode cX7_puts 11 = .ok (.getfield 38, 3) := by decide +kernel
theorem dX7_puts_14 : decode cX7_puts 14 = .ok (.iload_n 3, 1) := by decide +kernel
theorem dX7_puts_15 : decode cX7_puts 15 = .ok (.aload_n 0, 1) := by decide +kernel
theorem dX7_puts_16 : decode cX7_puts 16 = .ok (.getfield 9, 3) := by decide +kernel
theorem dX7_puts_19 : decode cX7_puts 19 = .ok (.iload_n 3, 1) := by decide +kernel
theorem dX7_puts_20 : decode cX7_puts 20 = .ok (.iaload, 1) := by decide +kernel
theorem dX7_puts_21 : decode cX7_puts 21 = .ok (.iload_n 1, 1) := by decide +kernel
theorem dX7_puts_22 : decode cX7_puts 22 = .ok (.if_icmp .ne 20, 3) := by decide +kernel
theorem dX7_puts_25 : decode cX7_puts 25 = .ok (.iload_n 2, 1) := by decide +kernel
theorem dX7_puts_26 : decode cX7_puts 26 = .ok (.iload_n 3, 1) := by decide +kernel
theorem dX7_puts_27 : decode cX7_puts 27 = .ok (.ishr, 1) := by decide +kernel
theorem dX7_puts_28 : decode cX7_puts 28 = .ok (.iconst 1, 1) := by decide +kernel
theorem dX7_puts_29 : decode cX7_puts 29 = .ok (.iand, 1) := by decide +kernel
theorem dX7_puts_30 : decode cX7_puts 30 = .ok (.iconst 1, 1) := by decide +kernel
theorem dX7_puts_31 : decode cX7_puts 31 = .ok (.if_icmp .ne 7, 3) := by decide +kernel
theorem dX7_puts_34 : decode cX7_puts 34 = .ok (.iconst 1, 1) := by decide +kernel
theorem dX7_puts_35 : decode cX7_puts 35 = .ok (.goto 13, 3) := by decide +kernel
theorem dX7_puts_38 : decode cX7_puts 38 = .ok (.iconst 0, 1) := by decide +kernel
theorem dX7_puts_39 : decode cX7_puts 39 = .ok (.goto 9, 3) := by decide +kernel
theorem dX7_puts_42 : decode cX7_puts 42 = .ok (.aload_n 0, 1) := by decide +kernel
theorem dX7_puts_43 : decode cX7_puts 43 = .ok (.getfield 38, 3) := by decide +kernel
theorem dX7_puts_46 : decode cX7_puts 46 = .ok (.iload_n 3, 1) := by decide +kernel
theorem dX7_puts_47 : decode cX7_puts 47 = .ok (.baload, 1) := by decide +kernel
theorem dX7_puts_48 : decode cX7_puts 48 = .ok (.bastore, 1) := by decide +kernel
theorem dX7_puts_49 : decode cX7_puts 49 = .ok (.iinc 3 1, 3) := by decide +kernel
theorem dX7_puts_52 : decode cX7_puts 52 = .ok (.goto (-50), 3) := by decide +kernel
theorem dX7_puts_55 : decode cX7_puts 55 = .ok (.aload_n 0, 1) := by decide +kernel
theorem dX7_puts_56 : decode cX7_puts 56 = .ok (.iload_n 2, 1) := by decide +kernel
theorem dX7_puts_57 : decode cX7_puts 57 = .ok (.invokevirtual 172, 3) := by decide +kernel
theorem dX7_puts_60 : decode cX7_puts 60 = .ok (.ireturn, 1) := by decide +kernel
theorem dX7_floor_0 : decode cX7_floor 0 = .ok (.aload_n 0, 1) := by decide +kernel
theorem dX7_floor_1 : decode cX7_floor 1 = .ok (.iload_n 1, 1) := by decide +kernel
theorem dX7_floor_2 : decode cX7_floor 2 = .ok (.invokestatic 90, 3) := by decide +kernel
theorem dX7_floor_5 : decode cX7_floor 5 = .ok (.iconst 1, 1) := by decide +kernel
theorem dX7_floor_6 : decode cX7_floor 6 = .ok (.invokevirtual 94, 3) := by decide +kernel
theorem dX7_floor_9 : decode cX7_floor 9 = .ok (.ifCond .eq 5, 3) := by decide +kernel
theorem dX7_floor_12 : decode cX7_floor 12 = .ok (.iconst 0, 1) := by decide +kernel
theorem dX7_floor_13 : decode cX7_floor 13 = .ok (.ireturn, 1) := by decide +kernel
theorem dX7_floor_14 : decode cX7_floor 14 = .ok (.iload_n 2, 1) := by decide +kernel
theorem dX7_floor_15 : decode cX7_floor 15 = .ok (.iconst 0, 1) := by decide +kernel
theorem dX7_floor_16 : decode cX7_floor 16 = .ok (.iconst 1, 1) := by decide +kernel
theorem dX7_floor_17 : decode cX7_floor 17 = .ok (.aload_n 0, 1) := by decide +kernel
theorem dX7_floor_18 : decode cX7_floor 18 = .ok (.getfield 80, 3) := by decide +kernel
theorem dX7_floor_21 : decode cX7_floor 21 = .ok (.ishl, 1) := by decide +kernel
theorem dX7_floor_22 : decode cX7_floor 22 = .ok (.iconst 1, 1) := by decide +kernel
theorem dX7_floor_23 : decode cX7_floor 23 = .ok (.isub, 1) := by decide +kernel
theorem dX7_floor_24 : decode cX7_floor 24 = .ok (.invokestatic 83, 3) := by decide +kernel
theorem dX7_floor_27 : decode cX7_floor 27 = .ok (.ifCond .eq 15, 3) := by decide +kernel
theorem dX7_floor_30 : decode cX7_floor 30 = .ok (.iload_n 2, 1) := by decide +kernel
theorem dX7_floor_31 : decode cX7_floor 31 = .ok (.invokestatic 152, 3) := by decide +kernel
theorem dX7_floor_34 : decode cX7_floor 34 = .ok (.iconst 4, 1) := by decide +kernel
theorem dX7_floor_35 : decode cX7_floor 35 = .ok (.if_icmp .gt 7, 3) := by decide +kernel
theorem dX7_floor_38 : decode cX7_floor 38 = .ok (.iconst 1, 1) := by decide +kernel
theorem dX7_floor_39 : decode cX7_floor 39 = .ok (.goto 4, 3) := by decide +kernel
theorem dX7_floor_42 : decode cX7_floor 42 = .ok (.iconst 0, 1) := by decide +kernel
theorem dX7_floor_43 : decode cX7_floor 43 = .ok (.istore_n 3, 1) := by decide +kernel
theorem dX7_floor_44 : decode cX7_floor 44 = .ok (.iconst 0, 1) := by decide +kernel
theorem dX7_floor_45 : decode cX7_floor 45 = .ok (.istore 4, 2) := by decide +kernel
theorem dX7_floor_47 : decode cX7_floor 47 = .ok (.iload 4, 2) := by decide +kernel
theorem dX7_floor_49 : decode cX7_floor 49 = .ok (.aload_n 0, 1) := by decide +kernel
theorem dX7_floor_50 : decode cX7_floor 50 = .ok (.getfield 80, 3) := by decide +kernel
theorem dX7_floor_53 : decode cX7_floor 53 = .ok (.if_icmp .ge 37, 3) := by decide +kernel
theorem dX7_floor_56 : decode cX7_floor 56 = .ok (.iload_n 3, 1) := by decide +kernel
theorem dX7_floor_57 : decode cX7_floor 57 = .ok (.iload_n 2, 1) := by decide +kernel
theorem dX7_floor_58 : decode cX7_floor 58 = .ok (.iload 4, 2) := by decide +kernel
theorem dX7_floor_60 : decode cX7_floor 60 = .ok (.ishr, 1) := by decide +kernel
theorem dX7_floor_61 : decode cX7_floor 61 = .ok (.iconst 1, 1) := by decide +kernel
theorem dX7_floor_62 : decode cX7_floor 62 = .ok (.iand, 1) := by decide +kernel
theorem dX7_floor_63 : decode cX7_floor 63 = .ok (.ifCond .eq 14, 3) := by decide +kernel
theorem dX7_floor_66 : decode cX7_floor 66 = .ok (.aload_n 0, 1) := by decide +kernel
theorem dX7_floor_67 : decode cX7_floor 67 = .ok (.getfield 9, 3) := by decide +kernel
theorem dX7_floor_70 : decode cX7_floor 70 = .ok (.iload 4, 2) := by decide +kernel
theorem dX7_floor_72 : decode cX7_floor 72 = .ok (.iaload, 1) := by decide +kernel
theorem dX7_floor_73 : decode cX7_floor 73 = .ok (.iload_n 1, 1) := by decide +kernel
theorem dX7_floor_74 : decode cX7_floor 74 = .ok (.if_icmp .ne 7, 3) := by decide +kernel
theorem dX7_floor_77 : decode cX7_floor 77 = .ok (.iconst 1, 1) := by decide +kernel
theorem dX7_floor_78 : decode cX7_floor 78 = .ok (.goto 4, 3) := by decide +kernel
theorem dX7_floor_81 : decode cX7_floor 81 = .ok (.iconst 0, 1) := by decide +kernel
theorem dX7_floor_82 : decode cX7_floor 82 = .ok (.iand, 1) := by decide +kernel
theorem dX7_floor_83 : decode cX7_floor 83 = .ok (.istore_n 3, 1) := by decide +kernel
theorem dX7_floor_84 : decode cX7_floor 84 = .ok (.iinc 4 1, 3) := by decide +kernel
theorem dX7_floor_87 : decode cX7_floor 87 = .ok (.goto (-40), 3) := by decide +kernel
theorem dX7_floor_90 : decode cX7_floor 90 = .ok (.aload_n 0, 1) := by decide +kernel
theorem dX7_floor_91 : decode cX7_floor 91 = .ok (.iload_n 3, 1) := by decide +kernel
theorem dX7_floor_92 : decode cX7_floor 92 = .ok (.ifCond .ne 7, 3) := by decide +kernel
theorem dX7_floor_95 : decode cX7_floor 95 = .ok (.iconst 1, 1) := by decide +kernel
theorem dX7_floor_96 : decode cX7_floor 96 = .ok (.goto 4, 3) := by decide +kernel
theorem dX7_floor_99 : decode cX7_floor 99 = .ok (.iconst 0, 1) := by decide +kernel
theorem dX7_floor_100 : decode cX7_floor 100 = .ok (.iconst 2, 1) := by decide +kernel
theorem dX7_floor_101 : decode cX7_floor 101 = .ok (.invokevirtual 94, 3) := by decide +kernel
theorem dX7_floor_104 : decode cX7_floor 104 = .ok (.ifCond .ne 16, 3) := by decide +kernel
theorem dX7_floor_107 : decode cX7_floor 107 = .ok (.aload_n 0, 1) := by decide +kernel
theorem dX7_floor_108 : decode cX7_floor 108 = .ok (.aload_n 0, 1) := by decide +kernel
theorem dX7_floor_109 : decode cX7_floor 109 = .ok (.iload_n 2, 1) := by decide +kernel
theorem dX7_floor_110 : decode cX7_floor 110 = .ok (.invokevirtual 175, 3) := by decide +kernel
theorem dX7_floor_113 : decode cX7_floor 113 = .ok (.iconst 3, 1) := by decide +kernel
theorem dX7_floor_114 : decode cX7_floor 114 = .ok (.invokevirtual 94, 3) := by decide +kernel
theorem dX7_floor_117 : decode cX7_floor 117 = .ok (.ifCond .eq 7, 3) := by decide +kernel
theorem dX7_floor_120 : decode cX7_floor 120 = .ok (.iconst 0, 1) := by decide +kernel
theorem dX7_floor_121 : decode cX7_floor 121 = .ok (.goto 9, 3) := by decide +kernel
theorem dX7_floor_124 : decode cX7_floor 124 = .ok (.aload_n 0, 1) := by decide +kernel
theorem dX7_floor_125 : decode cX7_floor 125 = .ok (.iload_n 1, 1) := by decide +kernel
theorem dX7_floor_126 : decode cX7_floor 126 = .ok (.iload_n 2, 1) := by decide +kernel
theorem dX7_floor_127 : decode cX7_floor 127 = .ok (.invokevirtual 178, 3) := by decide +kernel
theorem dX7_floor_130 : decode cX7_floor 130 = .ok (.ireturn, 1) := by decide +kernel
theorem dX7_swap_0 : decode cX7_swap 0 = .ok (.aload_n 0, 1) := by decide +kernel
theorem dX7_swap_1 : decode cX7_swap 1 = .ok (.iload_n 1, 1) := by decide +kernel
theorem dX7_swap_2 : decode cX7_swap 2 = .ok (.invokestatic 90, 3) := by decide +kernel
theorem dX7_swap_5 : decode cX7_swap 5 = .ok (.ifCond .ne 19, 3) := by decide +kernel
theorem dX7_swap_8 : decode cX7_swap 8 = .ok (.aload_n 0, 1) := by decide +kernel
theorem dX7_swap_9 : decode cX7_swap 9 = .ok (.iload_n 2, 1) := by decide +kernel
theorem dX7_swap_10 : decode cX7_swap 10 = .ok (.invokevirtual 98, 3) := by decide +kernel
theorem dX7_swap_13 : decode cX7_swap 13 = .ok (.ifCond .ne 11, 3) := by decide +kernel
theorem dX7_swap_16 : decode cX7_swap 16 = .ok (.aload_n 0, 1) := by decide +kernel
theorem dX7_swap_17 : decode cX7_swap 17 = .ok (.iload_n 3, 1) := by decide +kernel
theorem dX7_swap_18 : decode cX7_swap 18 = .ok (.invokevirtual 98, 3) := by decide +kernel
theorem dX7_swap_21 : decode cX7_swap 21 = .ok (.ifCond .eq 7, 3) := by decide +kernel
theorem dX7_swap_24 : decode cX7_swap 24 = .ok (.iconst 1, 1) := by decide +kernel
theorem dX7_swap_25 : decode cX7_swap 25 = .ok (.goto 4, 3) := by decide +kernel
theorem dX7_swap_28 : decode cX7_swap 28 = .ok (.iconst 0, 1) := by decide +kernel
theorem dX7_swap_29 : decode cX7_swap 29 = .ok (.iconst 1, 1) := by decide +kernel
theorem dX7_swap_30 : decode cX7_swap 30 = .ok (.invokevirtual 94, 3) := by decide +kernel
theorem dX7_swap_33 : decode cX7_swap 33 = .ok (.ifCond .eq 5, 3) := by decide +kernel
theorem dX7_swap_36 : decode cX7_swap 36 = .ok (.iconst 0, 1) := by decide +kernel
theorem dX7_swap_37 : decode cX7_swap 37 = .ok (.ireturn, 1) := by decide +kernel
theorem dX7_swap_38 : decode cX7_swap 38 = .ok (.aload_n 0, 1) := by decide +kernel
theorem dX7_swap_39 : decode cX7_swap 39 = .ok (.iload_n 1, 1) := by decide +kernel
theorem dX7_swap_40 : decode cX7_swap 40 = .ok (.invokevirtual 181, 3) := by decide +kernel
theorem dX7_swap_43 : decode cX7_swap 43 = .ok (.istore 4, 2) := by decide +kernel
theorem dX7_swap_45 : decode cX7_swap 45 = .ok (.iload 4, 2) := by decide +kernel
theorem dX7_swap_47 : decode cX7_swap 47 = .ok (.iload_n 2, 1) := by decide +kernel
theorem dX7_swap_48 : decode cX7_swap 48 = .ok (.ishr, 1) := by decide +kernel
theorem dX7_swap_49 : decode cX7_swap 49 = .ok (.iconst 1, 1) := by decide +kernel
theorem dX7_swap_50 : decode cX7_swap 50 = .ok (.iand, 1) := by decide +kernel
theorem dX7_swap_51 : decode cX7_swap 51 = .ok (.iconst 1, 1) := by decide +kernel
theorem dX7_swap_52 : decode cX7_swap 52 = .ok (.if_icmp .ne 26, 3) := by decide +kernel
theorem dX7_swap_55 : decode cX7_swap 55 = .ok (.iload 4, 2) := by decide +kernel
theorem dX7_swap_57 : decode cX7_swap 57 = .ok (.iload_n 3, 1) := by decide +kernel
theorem dX7_swap_58 : decode cX7_swap 58 = .ok (.ishr, 1) := by decide +kernel
theorem dX7_swap_59 : decode cX7_swap 59 = .ok (.iconst 1, 1) := by decide +kernel
theorem dX7_swap_60 : decode cX7_swap 60 = .ok (.iand, 1) := by decide +kernel
theorem dX7_swap_61 : decode cX7_swap 61 = .ok (.ifCond .ne 17, 3) := by decide +kernel
theorem dX7_swap_64 : decode cX7_swap 64 = .ok (.aload_n 0, 1) := by decide +kernel
theorem dX7_swap_65 : decode cX7_swap 65 = .ok (.getfield 9, 3) := by decide +kernel
theorem dX7_swap_68 : decode cX7_swap 68 = .ok (.iload_n 3, 1) := by decide +kernel
theorem dX7_swap_69 : decode cX7_swap 69 = .ok (.iaload, 1) := by decide +kernel
theorem dX7_swap_70 : decode cX7_swap 70 = .ok (.iload_n 1, 1) := by decide +kernel
theorem dX7_swap_71 : decode cX7_swap 71 = .ok (.if_icmp .ne 7, 3) := by decide +kernel
theorem dX7_swap_74 : decode cX7_swap 74 = .ok (.iconst 1, 1) := by decide +kernel
theorem dX7_swap_75 : decode cX7_swap 75 = .ok (.goto 4, 3) := by decide +kernel
theorem dX7_swap_78 : decode cX7_swap 78 = .ok (.iconst 0, 1) := by decide +kernel
theorem dX7_swap_79 : decode cX7_swap 79 = .ok (.istore 5, 2) := by decide +kernel
theorem dX7_swap_81 : decode cX7_swap 81 = .ok (.iload 4, 2) := by decide +kernel
theorem dX7_swap_83 : decode cX7_swap 83 = .ok (.iconst 1, 1) := by decide +kernel
theorem dX7_swap_84 : decode cX7_swap 84 = .ok (.iload_n 2, 1) := by decide +kernel
theorem dX7_swap_85 : decode cX7_swap 85 = .ok (.ishl, 1) := by decide +kernel
theorem dX7_swap_86 : decode cX7_swap 86 = .ok (.iconst (-1), 1) := by decide +kernel
theorem dX7_swap_87 : decode cX7_swap 87 = .ok (.ixor, 1) := by decide +kernel
theorem dX7_swap_88 : decode cX7_swap 88 = .ok (.iand, 1) := by decide +kernel
theorem dX7_swap_89 : decode cX7_swap 89 = .ok (.iconst 1, 1) := by decide +kernel
theorem dX7_swap_90 : decode cX7_swap 90 = .ok (.iload_n 3, 1) := by decide +kernel
theorem dX7_swap_91 : decode cX7_swap 91 = .ok (.ishl, 1) := by decide +kernel
theorem dX7_swap_92 : decode cX7_swap 92 = .ok (.ior, 1) := by decide +kernel
theorem dX7_swap_93 : decode cX7_swap 93 = .ok (.istore 6, 2) := by decide +kernel
theorem dX7_swap_95 : decode cX7_swap 95 = .ok (.aload_n 0, 1) := by decide +kernel
theorem dX7_swap_96 : decode cX7_swap 96 = .ok (.iload 5, 2) := by decide +kernel
theorem dX7_swap_98 : decode cX7_swap 98 = .ok (.ifCond .ne 7, 3) := by decide +kernel
theorem dX7_swap_101 : decode cX7_swap 101 = .ok (.iconst 1, 1) := by decide +kernel
theorem dX7_swap_102 : decode cX7_swap 102 = .ok (.goto 4, 3) := by decide +kernel
theorem dX7_swap_105 : decode cX7_swap 105 = .ok (.iconst 0, 1) := by decide +kernel
theorem dX7_swap_106 : decode cX7_swap 106 = .ok (.iconst 2, 1) := by decide +kernel
theorem dX7_swap_107 : decode cX7_swap 107 = .ok (.invokevirtual 94, 3) := by decide +kernel
theorem dX7_swap_110 : decode cX7_swap 110 = .ok (.ifCond .ne 17, 3) := by decide +kernel
theorem dX7_swap_113 : decode cX7_swap 113 = .ok (.aload_n 0, 1) := by decide +kernel
theorem dX7_swap_114 : decode cX7_swap 114 = .ok (.aload_n 0, 1) := by decide +kernel
theorem dX7_swap_115 : decode cX7_swap 115 = .ok (.iload 6, 2) := by decide +kernel
theorem dX7_swap_117 : decode cX7_swap 117 = .ok (.invokevirtual 175, 3) := by decide +kernel
theorem dX7_swap_120 : decode cX7_swap 120 = .ok (.iconst 3, 1) := by decide +kernel
theorem dX7_swap_121 : decode cX7_swap 121 = .ok (.invokevirtual 94, 3) := by decide +kernel
theorem dX7_swap_124 : decode cX7_swap 124 = .ok (.ifCond .eq 7, 3) := by decide +kernel
theorem dX7_swap_127 : decode cX7_swap 127 = .ok (.iconst 0, 1) := by decide +kernel
theorem dX7_swap_128 : decode cX7_swap 128 = .ok (.goto 10, 3) := by decide +kernel
theorem dX7_swap_131 : decode cX7_swap 131 = .ok (.aload_n 0, 1) := by decide +kernel
theorem dX7_swap_132 : decode cX7_swap 132 = .ok (.iload_n 1, 1) := by decide +kernel
theorem dX7_swap_133 : decode cX7_swap 133 = .ok (.iload 6, 2) := by decide +kernel
theorem dX7_swap_135 : decode cX7_swap 135 = .ok (.invokevirtual 178, 3) := by decide +kernel
theorem dX7_swap_138 : decode cX7_swap 138 = .ok (.ireturn, 1) := by decide +kernel
theorem dX7_onFloor_0 : decode cX7_onFloor 0 = .ok (.aload_n 0, 1) := by decide +kernel
theorem dX7_onFloor_1 : decode cX7_onFloor 1 = .ok (.iload_n 1, 1) := by decide +kernel
theorem dX7_onFloor_2 : decode cX7_onFloor 2 = .ok (.invokestatic 90, 3) := by decide +kernel
theorem dX7_onFloor_5 : decode cX7_onFloor 5 = .ok (.iconst 1, 1) := by decide +kernel
theorem dX7_onFloor_6 : decode cX7_onFloor 6 = .ok (.invokevirtual 94, 3) := by decide +kernel
theorem dX7_onFloor_9 : decode cX7_onFloor 9 = .ok (.ifCond .eq 7, 3) := by decide +kernel
theorem dX7_onFloor_12 : decode cX7_onFloor 12 = .ok (.iconst 0, 1) := by decide +kernel
theorem dX7_onFloor_13 : decode cX7_onFloor 13 = .ok (.goto 8, 3) := by decide +kernel
theorem dX7_onFloor_16 : decode cX7_onFloor 16 = .ok (.aload_n 0, 1) := by decide +kernel
theorem dX7_onFloor_17 : decode cX7_onFloor 17 = .ok (.iload_n 1, 1) := by decide +kernel
theorem dX7_onFloor_18 : decode cX7_onFloor 18 = .ok (.invokevirtual 181, 3) := by decide +kernel
theorem dX7_onFloor_21 : decode cX7_onFloor 21 = .ok (.ireturn, 1) := by decide +kernel
theorem dX7_points_0 : decode cX7_points 0 = .ok (.aload_n 0, 1) := by decide +kernel
theorem dX7_points_1 : decode cX7_points 1 = .ok (.iload_n 1, 1) := by decide +kernel
theorem dX7_points_2 : decode cX7_points 2 = .ok (.invokestatic 90, 3) := by decide +kernel
theorem dX7_points_5 : decode cX7_points 5 = .ok (.iconst 1, 1) := by decide +kernel
theorem dX7_points_6 : decode cX7_points 6 = .ok (.invokevirtual 94, 3) := by decide +kernel
theorem dX7_points_9 : decode cX7_points 9 = .ok (.ifCond .eq 7, 3) := by decide +kernel
theorem dX7_points_12 : decode cX7_points 12 = .ok (.iconst 0, 1) := by decide +kernel
theorem dX7_points_13 : decode cX7_points 13 = .ok (.goto 12, 3) := by decide +kernel
theorem dX7_points_16 : decode cX7_points 16 = .ok (.aload_n 0, 1) := by decide +kernel
theorem dX7_points_17 : decode cX7_points 17 = .ok (.aload_n 0, 1) := by decide +kernel
theorem dX7_points_18 : decode cX7_points 18 = .ok (.iload_n 1, 1) := by decide +kernel
theorem dX7_points_19 : decode cX7_points 19 = .ok (.invokevirtual 181, 3) := by decide +kernel
theorem dX7_points_22 : decode cX7_points 22 = .ok (.invokevirtual 172, 3) := by decide +kernel
theorem dX7_points_25 : decode cX7_points 25 = .ok (.ireturn, 1) := by decide +kernel
theorem dX7_checksum_0 : decode cX7_checksum 0 = .ok (.aload_n 0, 1) := by decide +kernel
theorem dX7_checksum_1 : decode cX7_checksum 1 = .ok (.iconst 0, 1) := by decide +kernel
theorem dX7_checksum_2 : decode cX7_checksum 2 = .ok (.putfield 76, 3) := by decide +kernel
theorem dX7_checksum_5 : decode cX7_checksum 5 = .ok (.ldc2_w 184, 3) := by decide +kernel
theorem dX7_checksum_8 : decode cX7_checksum 8 = .ok (.lstore_n 1, 1) := by decide +kernel
theorem dX7_checksum_9 : decode cX7_checksum 9 = .ok (.iconst 0, 1) := by decide +kernel
theorem dX7_checksum_10 : decode cX7_checksum 10 = .ok (.istore_n 3, 1) := by decide +kernel
theorem dX7_checksum_11 : decode cX7_checksum 11 = .ok (.iload_n 3, 1) := by decide +kernel
theorem dX7_checksum_12 : decode cX7_checksum 12 = .ok (.aload_n 0, 1) := by decide +kernel
theorem dX7_checksum_13 : decode cX7_checksum 13 = .ok (.getfield 80, 3) := by decide +kernel
theorem dX7_checksum_16 : decode cX7_checksum 16 = .ok (.if_icmp .ge 37, 3) := by decide +kernel
theorem dX7_checksum_19 : decode cX7_checksum 19 = .ok (.ldc2_w 186, 3) := by decide +kernel
theorem dX7_checksum_22 : decode cX7_checksum 22 = .ok (.lload_n 1, 1) := by decide +kernel
theorem dX7_checksum_23 : decode cX7_checksum 23 = .ok (.lmul, 1) := by decide +kernel
theorem dX7_checksum_24 : decode cX7_checksum 24 = .ok (.aload_n 0, 1) := by decide +kernel
theorem dX7_checksum_25 : decode cX7_checksum 25 = .ok (.getfield 32, 3) := by decide +kernel
theorem dX7_checksum_28 : decode cX7_checksum 28 = .ok (.iload_n 3, 1) := by decide +kernel
theorem dX7_checksum_29 : decode cX7_checksum 29 = .ok (.iaload, 1) := by decide +kernel
theorem dX7_checksum_30 : decode cX7_checksum 30 = .ok (.i2l, 1) := by decide +kernel
theorem dX7_checksum_31 : decode cX7_checksum 31 = .ok (.ladd, 1) := by decide +kernel
theorem dX7_checksum_32 : decode cX7_checksum 32 = .ok (.lstore_n 1, 1) := by decide +kernel
theorem dX7_checksum_33 : decode cX7_checksum 33 = .ok (.ldc2_w 186, 3) := by decide +kernel
theorem dX7_checksum_36 : decode cX7_checksum 36 = .ok (.lload_n 1, 1) := by decide +kernel
theorem dX7_checksum_37 : decode cX7_checksum 37 = .ok (.lmul, 1) := by decide +kernel
theorem dX7_checksum_38 : decode cX7_checksum 38 = .ok (.aload_n 0, 1) := by decide +kernel
theorem dX7_checksum_39 : decode cX7_checksum 39 = .ok (.getfield 28, 3) := by decide +kernel
theorem dX7_checksum_42 : decode cX7_checksum 42 = .ok (.iload_n 3, 1) := by decide +kernel
theorem dX7_checksum_43 : decode cX7_checksum 43 = .ok (.caload, 1) := by decide +kernel
theorem dX7_checksum_44 : decode cX7_checksum 44 = .ok (.i2l, 1) := by decide +kernel
theorem dX7_checksum_45 : decode cX7_checksum 45 = .ok (.ladd, 1) := by decide +kernel
theorem dX7_checksum_46 : decode cX7_checksum 46 = .ok (.lstore_n 1, 1) := by decide +kernel
theorem dX7_checksum_47 : decode cX7_checksum 47 = .ok (.iinc 3 1, 3) := by decide +kernel
theorem dX7_checksum_50 : decode cX7_checksum 50 = .ok (.goto (-39), 3) := by decide +kernel
theorem dX7_checksum_53 : decode cX7_checksum 53 = .ok (.iconst 0, 1) := by decide +kernel
theorem dX7_checksum_54 : decode cX7_checksum 54 = .ok (.istore_n 3, 1) := by decide +kernel
theorem dX7_checksum_55 : decode cX7_checksum 55 = .ok (.iload_n 3, 1) := by decide +kernel
theorem dX7_checksum_56 : decode cX7_checksum 56 = .ok (.aload_n 0, 1) := by decide +kernel
theorem dX7_checksum_57 : decode cX7_checksum 57 = .ok (.getfield 119, 3) := by decide +kernel
theorem dX7_checksum_60 : decode cX7_checksum 60 = .ok (.if_icmp .ge 82, 3) := by decide +kernel
theorem dX7_checksum_63 : decode cX7_checksum 63 = .ok (.iconst 0, 1) := by decide +kernel
theorem dX7_checksum_64 : decode cX7_checksum 64 = .ok (.istore 4, 2) := by decide +kernel
theorem dX7_checksum_66 : decode cX7_checksum 66 = .ok (.iload 4, 2) := by decide +kernel
theorem dX7_checksum_68 : decode cX7_checksum 68 = .ok (.aload_n 0, 1) := by decide +kernel
theorem dX7_checksum_69 : decode cX7_checksum 69 = .ok (.getfield 80, 3) := by decide +kernel
theorem dX7_checksum_72 : decode cX7_checksum 72 = .ok (.if_icmp .ge 64, 3) := by decide +kernel
theorem dX7_checksum_75 : decode cX7_checksum 75 = .ok (.aload_n 0, 1) := by decide +kernel
theorem dX7_checksum_76 : decode cX7_checksum 76 = .ok (.getfield 73, 3) := by decide +kernel
theorem dX7_checksum_79 : decode cX7_checksum 79 = .ok (.iload_n 3, 1) := by decide +kernel
theorem dX7_checksum_80 : decode cX7_checksum 80 = .ok (.aaload, 1) := by decide +kernel
theorem dX7_checksum_81 : decode cX7_checksum 81 = .ok (.iload 4, 2) := by decide +kernel
theorem dX7_checksum_83 : decode cX7_checksum 83 = .ok (.iaload, 1) := by decide +kernel
theorem dX7_checksum_84 : decode cX7_checksum 84 = .ok (.iconst (-1), 1) := by decide +kernel
theorem dX7_checksum_85 : decode cX7_checksum 85 = .ok (.if_icmp .ne 7, 3) := by decide +kernel
theorem dX7_checksum_88 : decode cX7_checksum 88 = .ok (.lconst 0, 1) := by decide +kernel
theorem dX7_checksum_89 : decode cX7_checksum 89 = .ok (.goto 13, 3) := by decide +kernel
theorem dX7_checksum_92 : decode cX7_checksum 92 = .ok (.aload_n 0, 1) := by decide +kernel
theorem dX7_checksum_93 : decode cX7_checksum 93 = .ok (.getfield 73, 3) := by decide +kernel
theorem dX7_checksum_96 : decode cX7_checksum 96 = .ok (.iload_n 3, 1) := by decide +kernel
theorem dX7_checksum_97 : decode cX7_checksum 97 = .ok (.aaload, 1) := by decide +kernel
theorem dX7_checksum_98 : decode cX7_checksum 98 = .ok (.iload 4, 2) := by decide +kernel
theorem dX7_checksum_100 : decode cX7_checksum 100 = .ok (.iaload, 1) := by decide +kernel
theorem dX7_checksum_101 : decode cX7_checksum 101 = .ok (.i2l, 1) := by decide +kernel
theorem dX7_checksum_102 : decode cX7_checksum 102 = .ok (.lstore 5, 2) := by decide +kernel
theorem dX7_checksum_104 : decode cX7_checksum 104 = .ok (.aload_n 0, 1) := by decide +kernel
theorem dX7_checksum_105 : decode cX7_checksum 105 = .ok (.getfield 65, 3) := by decide +kernel
theorem dX7_checksum_108 : decode cX7_checksum 108 = .ok (.iload_n 3, 1) := by decide +kernel
theorem dX7_checksum_109 : decode cX7_checksum 109 = .ok (.aaload, 1) := by decide +kernel
theorem dX7_checksum_110 : decode cX7_checksum 110 = .ok (.iload 4, 2) := by decide +kernel
theorem dX7_checksum_112 : decode cX7_checksum 112 = .ok (.iaload, 1) := by decide +kernel
theorem dX7_checksum_113 : decode cX7_checksum 113 = .ok (.iconst (-1), 1) := by decide +kernel
theorem dX7_checksum_114 : decode cX7_checksum 114 = .ok (.if_icmp .ne 7, 3) := by decide +kernel
theorem dX7_checksum_117 : decode cX7_checksum 117 = .ok (.lload_n 1, 1) := by decide +kernel
theorem dX7_checksum_118 : decode cX7_checksum 118 = .ok (.goto 11, 3) := by decide +kernel
theorem dX7_checksum_121 : decode cX7_checksum 121 = .ok (.ldc2_w 186, 3) := by decide +kernel
theorem dX7_checksum_124 : decode cX7_checksum 124 = .ok (.lload_n 1, 1) := by decide +kernel
theorem dX7_checksum_125 : decode cX7_checksum 125 = .ok (.lmul, 1) := by decide +kernel
theorem dX7_checksum_126 : decode cX7_checksum 126 = .ok (.lload 5, 2) := by decide +kernel
theorem dX7_checksum_128 : decode cX7_checksum 128 = .ok (.ladd, 1) := by decide +kernel
theorem dX7_checksum_129 : decode cX7_checksum 129 = .ok (.lstore_n 1, 1) := by decide +kernel
theorem dX7_checksum_130 : decode cX7_checksum 130 = .ok (.iinc 4 1, 3) := by decide +kernel
theorem dX7_checksum_133 : decode cX7_checksum 133 = .ok (.goto (-67), 3) := by decide +kernel
theorem dX7_checksum_136 : decode cX7_checksum 136 = .ok (.iinc 3 1, 3) := by decide +kernel
theorem dX7_checksum_139 : decode cX7_checksum 139 = .ok (.goto (-84), 3) := by decide +kernel
theorem dX7_checksum_142 : decode cX7_checksum 142 = .ok (.aload_n 0, 1) := by decide +kernel
theorem dX7_checksum_143 : decode cX7_checksum 143 = .ok (.getfield 50, 3) := by decide +kernel
theorem dX7_checksum_146 : decode cX7_checksum 146 = .ok (.astore_n 3, 1) := by decide +kernel
theorem dX7_checksum_147 : decode cX7_checksum 147 = .ok (.aload_n 3, 1) := by decide +kernel
theorem dX7_checksum_148 : decode cX7_checksum 148 = .ok (.arraylength, 1) := by decide +kernel
theorem dX7_checksum_149 : decode cX7_checksum 149 = .ok (.istore 4, 2) := by decide +kernel
theorem dX7_checksum_151 : decode cX7_checksum 151 = .ok (.iconst 0, 1) := by decide +kernel
theorem dX7_checksum_152 : decode cX7_checksum 152 = .ok (.istore 5, 2) := by decide +kernel
theorem dX7_checksum_154 : decode cX7_checksum 154 = .ok (.iload 5, 2) := by decide +kernel
theorem dX7_checksum_156 : decode cX7_checksum 156 = .ok (.iload 4, 2) := by decide +kernel
theorem dX7_checksum_158 : decode cX7_checksum 158 = .ok (.if_icmp .ge 25, 3) := by decide +kernel
theorem dX7_checksum_161 : decode cX7_checksum 161 = .ok (.aload_n 3, 1) := by decide +kernel
theorem dX7_checksum_162 : decode cX7_checksum 162 = .ok (.iload 5, 2) := by decide +kernel
theorem dX7_checksum_164 : decode cX7_checksum 164 = .ok (.iaload, 1) := by decide +kernel
theorem dX7_checksum_165 : decode cX7_checksum 165 = .ok (.istore 6, 2) := by decide +kernel
theorem dX7_checksum_167 : decode cX7_checksum 167 = .ok (.ldc2_w 186, 3) := by decide +kernel
theorem dX7_checksum_170 : decode cX7_checksum 170 = .ok (.lload_n 1, 1) := by decide +kernel
theorem dX7_checksum_171 : decode cX7_checksum 171 = .ok (.lmul, 1) := by decide +kernel
theorem dX7_checksum_172 : decode cX7_checksum 172 = .ok (.iload 6, 2) := by decide +kernel
theorem dX7_checksum_174 : decode cX7_checksum 174 = .ok (.i2l, 1) := by decide +kernel
theorem dX7_checksum_175 : decode cX7_checksum 175 = .ok (.ladd, 1) := by decide +kernel
theorem dX7_checksum_176 : decode cX7_checksum 176 = .ok (.lstore_n 1, 1) := by decide +kernel
theorem dX7_checksum_177 : decode cX7_checksum 177 = .ok (.iinc 5 1, 3) := by decide +kernel
theorem dX7_checksum_180 : decode cX7_checksum 180 = .ok (.goto (-26), 3) := by decide +kernel
theorem dX7_checksum_183 : decode cX7_checksum 183 = .ok (.lload_n 1, 1) := by decide +kernel
theorem dX7_checksum_184 : decode cX7_checksum 184 = .ok (.lreturn, 1) := by decide +kernel
theorem dX7_fallenShare_0 : decode cX7_fallenShare 0 = .ok (.iconst 0, 1) := by decide +kernel
theorem dX7_fallenShare_1 : decode cX7_fallenShare 1 = .ok (.istore_n 1, 1) := by decide +kernel
theorem dX7_fallenShare_2 : decode cX7_fallenShare 2 = .ok (.iconst 0, 1) := by decide +kernel
theorem dX7_fallenShare_3 : decode cX7_fallenShare 3 = .ok (.istore_n 2, 1) := by decide +kernel
theorem dX7_fallenShare_4 : decode cX7_fallenShare 4 = .ok (.iconst 0, 1) := by decide +kernel
theorem dX7_fallenShare_5 : decode cX7_fallenShare 5 = .ok (.istore_n 3, 1) := by decide +kernel
theorem dX7_fallenShare_6 : decode cX7_fallenShare 6 = .ok (.iload_n 3, 1) := by decide +kernel
theorem dX7_fallenShare_7 : decode cX7_fallenShare 7 = .ok (.aload_n 0, 1) := by decide +kernel
theorem dX7_fallenShare_8 : decode cX7_fallenShare 8 = .ok (.getfield 119, 3) := by decide +kernel
theorem dX7_fallenShare_11 : decode cX7_fallenShare 11 = .ok (.if_icmp .ge 68, 3) := by decide +kernel
theorem dX7_fallenShare_14 : decode cX7_fallenShare 14 = .ok (.iconst 0, 1) := by decide +kernel
theorem dX7_fallenShare_15 : decode cX7_fallenShare 15 = .ok (.istore 4, 2) := by decide +kernel
theorem dX7_fallenShare_17 : decode cX7_fallenShare 17 = .ok (.iload 4, 2) := by decide +kernel
