theorem dX6_next_65 : decode cX6_next 65 = .ok (.aload_n 0, 1) := by decide +kernel
theorem dX6_next_66 : decode cX6_next 66 = .ok (.getfield 197, 3) := by decide +kernel
theorem dX6_next_69 : decode cX6_next 69 = .ok (.if_icmp .ne 8, 3) := by decide +kernel
theorem dX6_next_72 : decode cX6_next 72 = .ok (.aload_n 0, 1) := by decide +kernel
theorem dX6_next_73 : decode cX6_next 73 = .ok (.aload_n 2, 1) := by decide +kernel
theorem dX6_next_74 : decode cX6_next 74 = .ok (.invokevirtual 208, 3) := by decide +kernel
theorem dX6_next_77 : decode cX6_next 77 = .ok (.iinc 1 1, 3) := by decide +kernel
theorem dX6_next_80 : decode cX6_next 80 = .ok (.goto (-49), 3) := by decide +kernel
theorem dX6_next_83 : decode cX6_next 83 = .ok (.aload_n 0, 1) := by decide +kernel
theorem dX6_next_84 : decode cX6_next 84 = .ok (.getfield 197, 3) := by decide +kernel
theorem dX6_next_87 : decode cX6_next 87 = .ok (.ireturn, 1) := by decide +kernel
theorem dX6_until_0 : decode cX6_until 0 = .ok (.aload_n 0, 1) := by decide +kernel
theorem dX6_until_1 : decode cX6_until 1 = .ok (.iload_n 1, 1) := by decide +kernel
theorem dX6_until_2 : decode cX6_until 2 = .ok (.invokevirtual 53, 3) := by decide +kernel
theorem dX6_until_5 : decode cX6_until 5 = .ok (.astore_n 2, 1) := by decide +kernel
theorem dX6_until_6 : decode cX6_until 6 = .ok (.aload_n 2, 1) := by decide +kernel
theorem dX6_until_7 : decode cX6_until 7 = .ok (.invokevirtual 202, 3) := by decide +kernel
theorem dX6_until_10 : decode cX6_until 10 = .ok (.ifCond .ne 13, 3) := by decide +kernel
theorem dX6_until_13 : decode cX6_until 13 = .ok (.new 90, 3) := by decide +kernel
theorem dX6_until_16 : decode cX6_until 16 = .ok (.dup, 1) := by decide +kernel
theorem dX6_until_17 : decode cX6_until 17 = .ok (.ldc 211, 2) := by decide +kernel
theorem dX6_until_19 : decode cX6_until 19 = .ok (.invokespecial 94, 3) := by decide +kernel
theorem dX6_until_22 : decode cX6_until 22 = .ok (.athrow, 1) := by decide +kernel
theorem dX6_until_23 : decode cX6_until 23 = .ok (.aload_n 2, 1) := by decide +kernel
theorem dX6_until_24 : decode cX6_until 24 = .ok (.getfield 205, 3) := by decide +kernel
theorem dX6_until_27 : decode cX6_until 27 = .ok (.ireturn, 1) := by decide +kernel
theorem dX6_meanLack_0 : decode cX6_meanLack 0 = .ok (.aload_n 0, 1) := by decide +kernel
theorem dX6_meanLack_1 : decode cX6_meanLack 1 = .ok (.iload_n 1, 1) := by decide +kernel
theorem dX6_meanLack_2 : decode cX6_meanLack 2 = .ok (.invokevirtual 53, 3) := by decide +kernel
theorem dX6_meanLack_5 : decode cX6_meanLack 5 = .ok (.getfield 65, 3) := by decide +kernel
theorem dX6_meanLack_8 : decode cX6_meanLack 8 = .ok (.invokevirtual 393, 3) := by decide +kernel
theorem dX6_meanLack_11 : decode cX6_meanLack 11 = .ok (.i2d, 1) := by decide +kernel
theorem dX6_meanLack_12 : decode cX6_meanLack 12 = .ok (.ldc2_w 396, 3) := by decide +kernel
theorem dX6_meanLack_15 : decode cX6_meanLack 15 = .ok (.ddiv, 1) := by decide +kernel
theorem dX6_meanLack_16 : decode cX6_meanLack 16 = .ok (.dreturn, 1) := by decide +kernel
theorem dX6_isSound_0 : decode cX6_isSound 0 = .ok (.iconst 0, 1) := by decide +kernel
theorem dX6_isSound_1 : decode cX6_isSound 1 = .ok (.istore_n 1, 1) := by decide +kernel
theorem dX6_isSound_2 : decode cX6_isSound 2 = .ok (.iload_n 1, 1) := by decide +kernel
theorem dX6_isSound_3 : decode cX6_isSound 3 = .ok (.aload_n 0, 1) := by decide +kernel
theorem dX6_isSound_4 : decode cX6_isSound 4 = .ok (.getfield 10, 3) := by decide +kernel
theorem dX6_isSound_7 : decode cX6_isSound 7 = .ok (.invokevirtual 33, 3) := by decide +kernel
theorem dX6_isSound_10 : decode cX6_isSound 10 = .ok (.if_icmp .ge 28, 3) := by decide +kernel
theorem dX6_isSound_13 : decode cX6_isSound 13 = .ok (.aload_n 0, 1) := by decide +kernel
theorem dX6_isSound_14 : decode cX6_isSound 14 = .ok (.getfield 10, 3) := by decide +kernel
theorem dX6_isSound_17 : decode cX6_isSound 17 = .ok (.iload_n 1, 1) := by decide +kernel
theorem dX6_isSound_18 : decode cX6_isSound 18 = .ok (.invokevirtual 185, 3) := by decide +kernel
theorem dX6_isSound_21 : decode cX6_isSound 21 = .ok (.checkcast 44, 3) := by decide +kernel
theorem dX6_isSound_24 : decode cX6_isSound 24 = .ok (.invokevirtual 398, 3) := by decide +kernel
theorem dX6_isSound_27 : decode cX6_isSound 27 = .ok (.ifCond .ne 5, 3) := by decide +kernel
theorem dX6_isSound_30 : decode cX6_isSound 30 = .ok (.iconst 0, 1) := by decide +kernel
theorem dX6_isSound_31 : decode cX6_isSound 31 = .ok (.ireturn, 1) := by decide +kernel
theorem dX6_isSound_32 : decode cX6_isSound 32 = .ok (.iinc 1 1, 3) := by decide +kernel
theorem dX6_isSound_35 : decode cX6_isSound 35 = .ok (.goto (-33), 3) := by decide +kernel
theorem dX6_isSound_38 : decode cX6_isSound 38 = .ok (.iconst 0, 1) := by decide +kernel
theorem dX6_isSound_39 : decode cX6_isSound 39 = .ok (.istore_n 1, 1) := by decide +kernel
theorem dX6_isSound_40 : decode cX6_isSound 40 = .ok (.iload_n 1, 1) := by decide +kernel
theorem dX6_isSound_41 : decode cX6_isSound 41 = .ok (.aload_n 0, 1) := by decide +kernel
theorem dX6_isSound_42 : decode cX6_isSound 42 = .ok (.getfield 22, 3) := by decide +kernel
theorem dX6_isSound_45 : decode cX6_isSound 45 = .ok (.invokevirtual 33, 3) := by decide +kernel
theorem dX6_isSound_48 : decode cX6_isSound 48 = .ok (.if_icmp .ge 28, 3) := by decide +kernel
theorem dX6_isSound_51 : decode cX6_isSound 51 = .ok (.aload_n 0, 1) := by decide +kernel
theorem dX6_isSound_52 : decode cX6_isSound 52 = .ok (.getfield 22, 3) := by decide +kernel
theorem dX6_isSound_55 : decode cX6_isSound 55 = .ok (.iload_n 1, 1) := by decide +kernel
theorem dX6_isSound_56 : decode cX6_isSound 56 = .ok (.invokevirtual 185, 3) := by decide +kernel
theorem dX6_isSound_59 : decode cX6_isSound 59 = .ok (.checkcast 221, 3) := by decide +kernel
theorem dX6_isSound_62 : decode cX6_isSound 62 = .ok (.invokevirtual 401, 3) := by decide +kernel
theorem dX6_isSound_65 : decode cX6_isSound 65 = .ok (.ifCond .ne 5, 3) := by decide +kernel
theorem dX6_isSound_68 : decode cX6_isSound 68 = .ok (.iconst 0, 1) := by decide +kernel
theorem dX6_isSound_69 : decode cX6_isSound 69 = .ok (.ireturn, 1) := by decide +kernel
theorem dX6_isSound_70 : decode cX6_isSound 70 = .ok (.iinc 1 1, 3) := by decide +kernel
theorem dX6_isSound_73 : decode cX6_isSound 73 = .ok (.goto (-33), 3) := by decide +kernel
theorem dX6_isSound_76 : decode cX6_isSound 76 = .ok (.iconst 1, 1) := by decide +kernel
theorem dX6_isSound_77 : decode cX6_isSound 77 = .ok (.ireturn, 1) := by decide +kernel
theorem dX6_needLand_0 : decode cX6_needLand 0 = .ok (.iload_n 0, 1) := by decide +kernel
theorem dX6_needLand_1 : decode cX6_needLand 1 = .ok (.ifCond .lt 9, 3) := by decide +kernel
theorem dX6_needLand_4 : decode cX6_needLand 4 = .ok (.iload_n 0, 1) := by decide +kernel
theorem dX6_needLand_5 : decode cX6_needLand 5 = .ok (.bipush 6, 2) := by decide +kernel
theorem dX6_needLand_7 : decode cX6_needLand 7 = .ok (.if_icmp .lt 14, 3) := by decide +kernel
theorem dX6_needLand_10 : decode cX6_needLand 10 = .ok (.new 232, 3) := by decide +kernel
theorem dX6_needLand_13 : decode cX6_needLand 13 = .ok (.dup, 1) := by decide +kernel
theorem dX6_needLand_14 : decode cX6_needLand 14 = .ok (.ldc_w 402, 3) := by decide +kernel
theorem dX6_needLand_17 : decode cX6_needLand 17 = .ok (.invokespecial 236, 3) := by decide +kernel
theorem dX6_needLand_20 : decode cX6_needLand 20 = .ok (.athrow, 1) := by decide +kernel
theorem dX6_needLand_21 : decode cX6_needLand 21 = .ok (.return_, 1) := by decide +kernel
theorem dX6_needMeasure_0 : decode cX6_needMeasure 0 = .ok (.iload_n 0, 1) := by decide +kernel
theorem dX6_needMeasure_1 : decode cX6_needMeasure 1 = .ok (.ifCond .lt 8, 3) := by decide +kernel
theorem dX6_needMeasure_4 : decode cX6_needMeasure 4 = .ok (.iload_n 0, 1) := by decide +kernel
theorem dX6_needMeasure_5 : decode cX6_needMeasure 5 = .ok (.iconst 5, 1) := by decide +kernel
theorem dX6_needMeasure_6 : decode cX6_needMeasure 6 = .ok (.if_icmp .lt 14, 3) := by decide +kernel
theorem dX6_needMeasure_9 : decode cX6_needMeasure 9 = .ok (.new 60, 3) := by decide +kernel
theorem dX6_needMeasure_12 : decode cX6_needMeasure 12 = .ok (.dup, 1) := by decide +kernel
theorem dX6_needMeasure_13 : decode cX6_needMeasure 13 = .ok (.ldc_w 404, 3) := by decide +kernel
theorem dX6_needMeasure_16 : decode cX6_needMeasure 16 = .ok (.invokespecial 64, 3) := by decide +kernel
theorem dX6_needMeasure_19 : decode cX6_needMeasure 19 = .ok (.athrow, 1) := by decide +kernel
theorem dX6_needMeasure_20 : decode cX6_needMeasure 20 = .ok (.return_, 1) := by decide +kernel
theorem dX6_needBounds_0 : decode cX6_needBounds 0 = .ok (.iload_n 0, 1) := by decide +kernel
theorem dX6_needBounds_1 : decode cX6_needBounds 1 = .ok (.ifCond .lt 15, 3) := by decide +kernel
theorem dX6_needBounds_4 : decode cX6_needBounds 4 = .ok (.iload_n 1, 1) := by decide +kernel
theorem dX6_needBounds_5 : decode cX6_needBounds 5 = .ok (.iload_n 0, 1) := by decide +kernel
theorem dX6_needBounds_6 : decode cX6_needBounds 6 = .ok (.if_icmp .lt 10, 3) := by decide +kernel
theorem dX6_needBounds_9 : decode cX6_needBounds 9 = .ok (.iload_n 1, 1) := by decide +kernel
theorem dX6_needBounds_10 : decode cX6_needBounds 10 = .ok (.sipush 500, 3) := by decide +kernel
theorem dX6_needBounds_13 : decode cX6_needBounds 13 = .ok (.if_icmp .le 14, 3) := by decide +kernel
theorem dX6_needBounds_16 : decode cX6_needBounds 16 = .ok (.new 60, 3) := by decide +kernel
theorem dX6_needBounds_19 : decode cX6_needBounds 19 = .ok (.dup, 1) := by decide +kernel
theorem dX6_needBounds_20 : decode cX6_needBounds 20 = .ok (.ldc_w 406, 3) := by decide +kernel
theorem dX6_needBounds_23 : decode cX6_needBounds 23 = .ok (.invokespecial 64, 3) := by decide +kernel
theorem dX6_needBounds_26 : decode cX6_needBounds 26 = .ok (.athrow, 1) := by decide +kernel
theorem dX6_needBounds_27 : decode cX6_needBounds 27 = .ok (.return_, 1) := by decide +kernel
theorem dX6_needAthlete_0 : decode cX6_needAthlete 0 = .ok (.iload_n 1, 1) := by decide +kernel
theorem dX6_needAthlete_1 : decode cX6_needAthlete 1 = .ok (.ifCond .lt 14, 3) := by decide +kernel
theorem dX6_needAthlete_4 : decode cX6_needAthlete 4 = .ok (.iload_n 1, 1) := by decide +kernel
theorem dX6_needAthlete_5 : decode cX6_needAthlete 5 = .ok (.aload_n 0, 1) := by decide +kernel
theorem dX6_needAthlete_6 : decode cX6_needAthlete 6 = .ok (.getfield 10, 3) := by decide +kernel
theorem dX6_needAthlete_9 : decode cX6_needAthlete 9 = .ok (.invokevirtual 33, 3) := by decide +kernel
theorem dX6_needAthlete_12 : decode cX6_needAthlete 12 = .ok (.if_icmp .lt 14, 3) := by decide +kernel
theorem dX6_needAthlete_15 : decode cX6_needAthlete 15 = .ok (.new 232, 3) := by decide +kernel
theorem dX6_needAthlete_18 : decode cX6_needAthlete 18 = .ok (.dup, 1) := by decide +kernel
theorem dX6_needAthlete_19 : decode cX6_needAthlete 19 = .ok (.ldc_w 408, 3) := by decide +kernel
theorem dX6_needAthlete_22 : decode cX6_needAthlete 22 = .ok (.invokespecial 236, 3) := by decide +kernel
theorem dX6_needAthlete_25 : decode cX6_needAthlete 25 = .ok (.athrow, 1) := by decide +kernel
theorem dX6_needAthlete_26 : decode cX6_needAthlete 26 = .ok (.aload_n 0, 1) := by decide +kernel
theorem dX6_needAthlete_27 : decode cX6_needAthlete 27 = .ok (.getfield 10, 3) := by decide +kernel
theorem dX6_needAthlete_30 : decode cX6_needAthlete 30 = .ok (.iload_n 1, 1) := by decide +kernel
theorem dX6_needAthlete_31 : decode cX6_needAthlete 31 = .ok (.invokevirtual 185, 3) := by decide +kernel
theorem dX6_needAthlete_34 : decode cX6_needAthlete 34 = .ok (.checkcast 44, 3) := by decide +kernel
theorem dX6_needAthlete_37 : decode cX6_needAthlete 37 = .ok (.areturn, 1) := by decide +kernel
theorem dX6_needClassifier_0 : decode cX6_needClassifier 0 = .ok (.iload_n 1, 1) := by decide +kernel
theorem dX6_needClassifier_1 : decode cX6_needClassifier 1 = .ok (.ifCond .lt 14, 3) := by decide +kernel
theorem dX6_needClassifier_4 : decode cX6_needClassifier 4 = .ok (.iload_n 1, 1) := by decide +kernel
theorem dX6_needClassifier_5 : decode cX6_needClassifier 5 = .ok (.aload_n 0, 1) := by decide +kernel
theorem dX6_needClassifier_6 : decode cX6_needClassifier 6 = .ok (.getfield 16, 3) := by decide +kernel
theorem dX6_needClassifier_9 : decode cX6_needClassifier 9 = .ok (.invokevirtual 33, 3) := by decide +kernel
theorem dX6_needClassifier_12 : decode cX6_needClassifier 12 = .ok (.if_icmp .lt 14, 3) := by decide +kernel
theorem dX6_needClassifier_15 : decode cX6_needClassifier 15 = .ok (.new 232, 3) := by decide +kernel
theorem dX6_needClassifier_18 : decode cX6_needClassifier 18 = .ok (.dup, 1) := by decide +kernel
theorem dX6_needClassifier_19 : decode cX6_needClassifier 19 = .ok (.ldc_w 410, 3) := by decide +kernel
theorem dX6_needClassifier_22 : decode cX6_needClassifier 22 = .ok (.invokespecial 236, 3) := by decide +kernel
theorem dX6_needClassifier_25 : decode cX6_needClassifier 25 = .ok (.athrow, 1) := by decide +kernel
theorem dX6_needClassifier_26 : decode cX6_needClassifier 26 = .ok (.aload_n 0, 1) := by decide +kernel
theorem dX6_needClassifier_27 : decode cX6_needClassifier 27 = .ok (.getfield 16, 3) := by decide +kernel
theorem dX6_needClassifier_30 : decode cX6_needClassifier 30 = .ok (.iload_n 1, 1) := by decide +kernel
theorem dX6_needClassifier_31 : decode cX6_needClassifier 31 = .ok (.invokevirtual 185, 3) := by decide +kernel
theorem dX6_needClassifier_34 : decode cX6_needClassifier 34 = .ok (.checkcast 100, 3) := by decide +kernel
theorem dX6_needClassifier_37 : decode cX6_needClassifier 37 = .ok (.areturn, 1) := by decide +kernel
theorem dX6_numberOf_0 : decode cX6_numberOf 0 = .ok (.aload_n 0, 1) := by decide +kernel
theorem dX6_numberOf_1 : decode cX6_numberOf 1 = .ok (.ifnonnull 7, 3) := by decide +kernel
theorem dX6_numberOf_4 : decode cX6_numberOf 4 = .ok (.iconst (-1), 1) := by decide +kernel
theorem dX6_numberOf_5 : decode cX6_numberOf 5 = .ok (.goto 7, 3) := by decide +kernel
theorem dX6_numberOf_8 : decode cX6_numberOf 8 = .ok (.aload_n 0, 1) := by decide +kernel
theorem dX6_numberOf_9 : decode cX6_numberOf 9 = .ok (.getfield 119, 3) := by decide +kernel
theorem dX6_numberOf_12 : decode cX6_numberOf 12 = .ok (.ireturn, 1) := by decide +kernel
theorem dX6_kindAround_0 : decode cX6_kindAround 0 = .ok (.iconst 0, 1) := by decide +kernel
theorem dX6_kindAround_1 : decode cX6_kindAround 1 = .ok (.istore_n 2, 1) := by decide +kernel
theorem dX6_kindAround_2 : decode cX6_kindAround 2 = .ok (.iload_n 2, 1) := by decide +kernel
theorem dX6_kindAround_3 : decode cX6_kindAround 3 = .ok (.aload_n 0, 1) := by decide +kernel
theorem dX6_kindAround_4 : decode cX6_kindAround 4 = .ok (.getfield 19, 3) := by decide +kernel
theorem dX6_kindAround_7 : decode cX6_kindAround 7 = .ok (.invokevirtual 33, 3) := by decide +kernel
theorem dX6_kindAround_10 : decode cX6_kindAround 10 = .ok (.if_icmp .ge 39, 3) := by decide +kernel
theorem dX6_kindAround_13 : decode cX6_kindAround 13 = .ok (.aload_n 0, 1) := by decide +kernel
theorem dX6_kindAround_14 : decode cX6_kindAround 14 = .ok (.getfield 19, 3) := by decide +kernel
theorem dX6_kindAround_17 : decode cX6_kindAround 17 = .ok (.iload_n 2, 1) := by decide +kernel
theorem dX6_kindAround_18 : decode cX6_kindAround 18 = .ok (.invokevirtual 185, 3) := by decide +kernel
theorem dX6_kindAround_21 : decode cX6_kindAround 21 = .ok (.checkcast 111, 3) := by decide +kernel
theorem dX6_kindAround_24 : decode cX6_kindAround 24 = .ok (.aload_n 1, 1) := by decide +kernel
theorem dX6_kindAround_25 : decode cX6_kindAround 25 = .ok (.invokevirtual 189, 3) := by decide +kernel
theorem dX6_kindAround_28 : decode cX6_kindAround 28 = .ok (.ifCond .eq 15, 3) := by decide +kernel
theorem dX6_kindAround_31 : decode cX6_kindAround 31 = .ok (.aload_n 0, 1) := by decide +kernel
theorem dX6_kindAround_32 : decode cX6_kindAround 32 = .ok (.getfield 19, 3) := by decide +kernel
theorem dX6_kindAround_35 : decode cX6_kindAround 35 = .ok (.iload_n 2, 1) := by decide +kernel
theorem dX6_kindAround_36 : decode cX6_kindAround 36 = .ok (.invokevirtual 185, 3) := by decide +kernel
theorem dX6_kindAround_39 : decode cX6_kindAround 39 = .ok (.checkcast 111, 3) := by decide +kernel
theorem dX6_kindAround_42 : decode cX6_kindAround 42 = .ok (.areturn, 1) := by decide +kernel
theorem dX6_kindAround_43 : decode cX6_kindAround 43 = .ok (.iinc 2 1, 3) := by decide +kernel
theorem dX6_kindAround_46 : decode cX6_kindAround 46 = .ok (.goto (-44), 3) := by decide +kernel
theorem dX6_kindAround_49 : decode cX6_kindAround 49 = .ok (.aconst_null, 1) := by decide +kernel
theorem dX6_kindAround_50 : decode cX6_kindAround 50 = .ok (.areturn, 1) := by decide +kernel
theorem dX6_examine_0 : decode cX6_examine 0 = .ok (.aload_n 1, 1) := by decide +kernel
theorem dX6_examine_1 : decode cX6_examine 1 = .ok (.getfield 65, 3) := by decide +kernel
theorem dX6_examine_4 : decode cX6_examine 4 = .ok (.aload_n 1, 1) := by decide +kernel
theorem dX6_examine_5 : decode cX6_examine 5 = .ok (.getfield 95, 3) := by decide +kernel
theorem dX6_examine_8 : decode cX6_examine 8 = .ok (.invokevirtual 421, 3) := by decide +kernel
theorem dX6_examine_11 : decode cX6_examine 11 = .ok (.istore_n 2, 1) := by decide +kernel
theorem dX6_examine_12 : decode cX6_examine 12 = .ok (.aload_n 1, 1) := by decide +kernel
theorem dX6_examine_13 : decode cX6_examine 13 = .ok (.invokevirtual 424, 3) := by decide +kernel
theorem dX6_examine_16 : decode cX6_examine 16 = .ok (.iload_n 2, 1) := by decide +kernel
theorem dX6_examine_17 : decode cX6_examine 17 = .ok (.ifCond .eq 14, 3) := by decide +kernel
theorem dX6_examine_20 : decode cX6_examine 20 = .ok (.aload_n 0, 1) := by decide +kernel
theorem dX6_examine_21 : decode cX6_examine 21 = .ok (.aload_n 1, 1) := by decide +kernel
theorem dX6_examine_22 : decode cX6_examine 22 = .ok (.aconst_null, 1) := by decide +kernel
theorem dX6_examine_23 : decode cX6_examine 23 = .ok (.bipush 120, 2) := by decide +kernel
theorem dX6_examine_25 : decode cX6_examine 25 = .ok (.invokevirtual 193, 3) := by decide +kernel
theorem dX6_examine_28 : decode cX6_examine 28 = .ok (.goto 10, 3) := by decide +kernel
theorem dX6_examine_31 : decode cX6_examine 31 = .ok (.aload_n 0, 1) := by decide +kernel
theorem dX6_examine_32 : decode cX6_examine 32 = .ok (.aload_n 1, 1) := by decide +kernel
theorem dX6_examine_33 : decode cX6_examine 33 = .ok (.bipush 99, 2) := by decide +kernel
theorem dX6_examine_35 : decode cX6_examine 35 = .ok (.invokevirtual 153, 3) := by decide +kernel
theorem dX6_examine_38 : decode cX6_examine 38 = .ok (.return_, 1) := by decide +kernel
theorem dX6_settleByFound_0 : decode cX6_settleByFound 0 = .ok (.aload_n 0, 1) := by decide +kernel
theorem dX6_settleByFound_1 : decode cX6_settleByFound 1 = .ok (.aload_n 1, 1) := by decide +kernel
theorem dX6_settleByFound_2 : decode cX6_settleByFound 2 = .ok (.getfield 95, 3) := by decide +kernel
theorem dX6_settleByFound_5 : decode cX6_settleByFound 5 = .ok (.invokevirtual 123, 3) := by decide +kernel
theorem dX6_settleByFound_8 : decode cX6_settleByFound 8 = .ok (.astore_n 3, 1) := by decide +kernel
theorem dX6_settleByFound_9 : decode cX6_settleByFound 9 = .ok (.aload_n 0, 1) := by decide +kernel
theorem dX6_settleByFound_10 : decode cX6_settleByFound 10 = .ok (.aload_n 1, 1) := by decide +kernel
theorem dX6_settleByFound_11 : decode cX6_settleByFound 11 = .ok (.aload_n 3, 1) := by decide +kernel
theorem dX6_settleByFound_12 : decode cX6_settleByFound 12 = .ok (.aload_n 3, 1) := by decide +kernel
theorem dX6_settleByFound_13 : decode cX6_settleByFound 13 = .ok (.ifnonnull 8, 3) := by decide +kernel
theorem dX6_settleByFound_16 : decode cX6_settleByFound 16 = .ok (.bipush 101, 2) := by decide +kernel
theorem dX6_settleByFound_18 : decode cX6_settleByFound 18 = .ok (.goto 4, 3) := by decide +kernel
theorem dX6_settleByFound_21 : decode cX6_settleByFound 21 = .ok (.iload_n 2, 1) := by decide +kernel
theorem dX6_settleByFound_22 : decode cX6_settleByFound 22 = .ok (.invokevirtual 193, 3) := by decide +kernel
theorem dX6_settleByFound_25 : decode cX6_settleByFound 25 = .ok (.return_, 1) := by decide +kernel
theorem dX6_settle_0 : decode cX6_settle 0 = .ok (.aload_n 1, 1) := by decide +kernel
theorem dX6_settle_1 : decode cX6_settle 1 = .ok (.getfield 157, 3) := by decide +kernel
theorem dX6_settle_4 : decode cX6_settle 4 = .ok (.aload_n 2, 1) := by decide +kernel
theorem dX6_settle_5 : decode cX6_settle 5 = .ok (.if_acmp .eq 8, 3) := by decide +kernel
theorem dX6_settle_8 : decode cX6_settle 8 = .ok (.aload_n 0, 1) := by decide +kernel
theorem dX6_settle_9 : decode cX6_settle 9 = .ok (.aload_n 1, 1) := by decide +kernel
theorem dX6_settle_10 : decode cX6_settle 10 = .ok (.invokevirtual 427, 3) := by decide +kernel
theorem dX6_settle_13 : decode cX6_settle 13 = .ok (.aload_n 1, 1) := by decide +kernel
theorem dX6_settle_14 : decode cX6_settle 14 = .ok (.aload_n 2, 1) := by decide +kernel
theorem dX6_settle_15 : decode cX6_settle 15 = .ok (.putfield 157, 3) := by decide +kernel
theorem dX6_settle_18 : decode cX6_settle 18 = .ok (.aload_n 1, 1) := by decide +kernel
theorem dX6_settle_19 : decode cX6_settle 19 = .ok (.iload_n 3, 1) := by decide +kernel
theorem dX6_settle_20 : decode cX6_settle 20 = .ok (.putfield 141, 3) := by decide +kernel
theorem dX6_settle_23 : decode cX6_settle 23 = .ok (.aload_n 1, 1) := by decide +kernel
theorem dX6_settle_24 : decode cX6_settle 24 = .ok (.aload_n 0, 1) := by decide +kernel
theorem dX6_settle_25 : decode cX6_settle 25 = .ok (.getfield 197, 3) := by decide +kernel
theorem dX6_settle_28 : decode cX6_settle 28 = .ok (.iconst 2, 1) := by decide +kernel
theorem dX6_settle_29 : decode cX6_settle 29 = .ok (.iadd, 1) := by decide +kernel
theorem dX6_settle_30 : decode cX6_settle 30 = .ok (.putfield 205, 3) := by decide +kernel
theorem dX6_settle_33 : decode cX6_settle 33 = .ok (.aload_n 2, 1) := by decide +kernel
theorem dX6_settle_34 : decode cX6_settle 34 = .ok (.ifnonnull 8, 3) := by decide +kernel
theorem dX6_settle_37 : decode cX6_settle 37 = .ok (.aload_n 1, 1) := by decide +kernel
theorem dX6_settle_38 : decode cX6_settle 38 = .ok (.iconst 0, 1) := by decide +kernel
theorem dX6_settle_39 : decode cX6_settle 39 = .ok (.putfield 368, 3) := by decide +kernel
theorem dX6_settle_42 : decode cX6_settle 42 = .ok (.return_, 1) := by decide +kernel
theorem dX6_endWaiting_0 : decode cX6_endWaiting 0 = .ok (.aload_n 1, 1) := by decide +kernel
theorem dX6_endWaiting_1 : decode cX6_endWaiting 1 = .ok (.getfield 141, 3) := by decide +kernel
theorem dX6_endWaiting_4 : decode cX6_endWaiting 4 = .ok (.bipush 120, 2) := by decide +kernel
theorem dX6_endWaiting_6 : decode cX6_endWaiting 6 = .ok (.if_icmp .ne 14, 3) := by decide +kernel
theorem dX6_endWaiting_9 : decode cX6_endWaiting 9 = .ok (.aload_n 0, 1) := by decide +kernel
theorem dX6_endWaiting_10 : decode cX6_endWaiting 10 = .ok (.aload_n 1, 1) := by decide +kernel
theorem dX6_endWaiting_11 : decode cX6_endWaiting 11 = .ok (.aconst_null, 1) := by decide +kernel
theorem dX6_endWaiting_12 : decode cX6_endWaiting 12 = .ok (.bipush 45, 2) := by decide +kernel
theorem dX6_endWaiting_14 : decode cX6_endWaiting 14 = .ok (.invokevirtual 193, 3) := by decide +kernel
theorem dX6_endWaiting_17 : decode cX6_endWaiting 17 = .ok (.goto 10, 3) := by decide +kernel
theorem dX6_endWaiting_20 : decode cX6_endWaiting 20 = .ok (.aload_n 0, 1) := by decide +kernel
theorem dX6_endWaiting_21 : decode cX6_endWaiting 21 = .ok (.aload_n 1, 1) := by decide +kernel
theorem dX6_endWaiting_22 : decode cX6_endWaiting 22 = .ok (.bipush 99, 2) := by decide +kernel
theorem dX6_endWaiting_24 : decode cX6_endWaiting 24 = .ok (.invokevirtual 153, 3) := by decide +kernel
theorem dX6_endWaiting_27 : decode cX6_endWaiting 27 = .ok (.return_, 1) := by decide +kernel
theorem dX6_dropOpenEntries_0 : decode cX6_dropOpenEntries 0 = .ok (.iconst 0, 1) := by decide +kernel
theorem dX6_dropOpenEntries_1 : decode cX6_dropOpenEntries 1 = .ok (.istore_n 2, 1) := by decide +kernel
theorem dX6_dropOpenEntries_2 : decode cX6_dropOpenEntries 2 = .ok (.iload_n 2, 1) := by decide +kernel
theorem dX6_dropOpenEntries_3 : decode cX6_dropOpenEntries 3 = .ok (.aload_n 0, 1) := by decide +kernel
theorem dX6_dropOpenEntries_4 : decode cX6_dropOpenEntries 4 = .ok (.getfield 22, 3) := by decide +kernel
theorem dX6_dropOpenEntries_7 : decode cX6_dropOpenEntries 7 = .ok (.invokevirtual 33, 3) := by decide +kernel
theorem dX6_dropOpenEntries_10 : decode cX6_dropOpenEntries 10 = .ok (.if_icmp .ge 50, 3) := by decide +kernel
theorem dX6_dropOpenEntries_13 : decode cX6_dropOpenEntries 13 = .ok (.aload_n 0, 1) := by decide +kernel
theorem dX6_dropOpenEntries_14 : decode cX6_dropOpenEntries 14 = .ok (.getfield 22, 3) := by decide +kernel
theorem dX6_dropOpenEntries_17 : decode cX6_dropOpenEntries 17 = .ok (.iload_n 2, 1) := by decide +kernel
theorem dX6_dropOpenEntries_18 : decode cX6_dropOpenEntries 18 = .ok (.invokevirtual 185, 3) := by decide +kernel
theorem dX6_dropOpenEntries_21 : decode cX6_dropOpenEntries 21 = .ok (.checkcast 221, 3) := by decide +kernel
theorem dX6_dropOpenEntries_24 : decode cX6_dropOpenEntries 24 = .ok (.aload_n 1, 1) := by decide +kernel
theorem dX6_dropOpenEntries_25 : decode cX6_dropOpenEntries 25 = .ok (.invokevirtual 250, 3) := by decide +kernel
theorem dX6_dropOpenEntries_28 : decode cX6_dropOpenEntries 28 = .ok (.astore_n 3, 1) := by decide +kernel
theorem dX6_dropOpenEntries_29 : decode cX6_dropOpenEntries 29 = .ok (.aload_n 3, 1) := by decide +kernel
theorem dX6_dropOpenEntries_30 : decode cX6_dropOpenEntries 30 = .ok (.ifnull 24, 3) := by decide +kernel
theorem dX6_dropOpenEntries_33 : decode cX6_dropOpenEntries 33 = .ok (.aload_n 0, 1) := by decide +kernel
theorem dX6_dropOpenEntries_34 : decode cX6_dropOpenEntries 34 = .ok (.getfield 22, 3) := by decide +kernel
theorem dX6_dropOpenEntries_37 : decode cX6_dropOpenEntries 37 = .ok (.iload_n 2, 1) := by decide +kernel
theorem dX6_dropOpenEntries_38 : decode cX6_dropOpenEntries 38 = .ok (.invokevirtual 185, 3) := by decide +kernel
theorem dX6_dropOpenEntries_41 : decode cX6_dropOpenEntries 41 = .ok (.checkcast 221, 3) := by decide +kernel
theorem dX6_dropOpenEntries_44 : decode cX6_dropOpenEntries 44 = .ok (.getfield 286, 3) := by decide +kernel
theorem dX6_dropOpenEntries_47 : decode cX6_dropOpenEntries 47 = .ok (.ifCond .ne 7, 3) := by decide +kernel
theorem dX6_dropOpenEntries_50 : decode cX6_dropOpenEntries 50 = .ok (.aload_n 3, 1) := by decide +kernel
theorem dX6_dropOpenEntries_51 : decode cX6_dropOpenEntries 51 = .ok (.invokevirtual 297, 3) := by decide +kernel
theorem dX6_dropOpenEntries_54 : decode cX6_dropOpenEntries 54 = .ok (.iinc 2 1, 3) := by decide +kernel
theorem dX6_dropOpenEntries_57 : decode cX6_dropOpenEntries 57 = .ok (.goto (-55), 3) := by decide +kernel
theorem dX6_dropOpenEntries_60 : decode cX6_dropOpenEntries 60 = .ok (.return_, 1) := by decide +kernel
theorem dX6_hasResult_0 : decode cX6_hasResult 0 = .ok (.iconst 0, 1) := by decide +kernel
theorem dX6_hasResult_1 : decode cX6_hasResult 1 = .ok (.istore_n 2, 1) := by decide +kernel
theorem dX6_hasResult_2 : decode cX6_hasResult 2 = .ok (.iload_n 2, 1) := by decide +kernel
theorem dX6_hasResult_3 : decode cX6_hasResult 3 = .ok (.aload_n 0, 1) := by decide +kernel
theorem dX6_hasResult_4 : decode cX6_hasResult 4 = .ok (.getfield 22, 3) := by decide +kernel
theorem dX6_hasResult_7 : decode cX6_hasResult 7 = .ok (.invokevirtual 33, 3) := by decide +kernel
theorem dX6_hasResult_10 : decode cX6_hasResult 10 = .ok (.if_icmp .ge 38, 3) := by decide +kernel
theorem dX6_hasResult_13 : decode cX6_hasResult 13 = .ok (.aload_n 0, 1) := by decide +kernel
theorem dX6_hasResult_14 : decode cX6_hasResult 14 = .ok (.getfield 22, 3) := by decide +kernel
theorem dX6_hasResult_17 : decode cX6_hasResult 17 = .ok (.iload_n 2, 1) := by decide +kernel
theorem dX6_hasResult_18 : decode cX6_hasResult 18 = .ok (.invokevirtual 185, 3) := by decide +kernel
theorem dX6_hasResult_21 : decode cX6_hasResult 21 = .ok (.checkcast 221, 3) := by decide +kernel
theorem dX6_hasResult_24 : decode cX6_hasResult 24 = .ok (.aload_n 1, 1) := by decide +kernel
theorem dX6_hasResult_25 : decode cX6_hasResult 25 = .ok (.invokevirtual 250, 3) := by decide +kernel
theorem dX6_hasResult_28 : decode cX6_hasResult 28 = .ok (.astore_n 3, 1) := by decide +kernel
theorem dX6_hasResult_29 : decode cX6_hasResult 29 = .ok (.aload_n 3, 1) := by decide +kernel
theorem dX6_hasResult_30 : decode cX6_hasResult 30 = .ok (.ifnull 12, 3) := by decide +kernel
theorem dX6_hasResult_33 : decode cX6_hasResult 33 = .ok (.aload_n 3, 1) := by decide +kernel
theorem dX6_hasResult_34 : decode cX6_hasResult 34 = .ok (.invokevirtual 292, 3) := by decide +kernel
theorem dX6_hasResult_37 : decode cX6_hasResult 37 = .ok (.ifCond .eq 5, 3) := by decide +kernel
theorem dX6_hasResult_40 : decode cX6_hasResult 40 = .ok (.iconst 1, 1) := by decide +kernel
theorem dX6_hasResult_41 : decode cX6_hasResult 41 = .ok (.ireturn, 1) := by decide +kernel
theorem dX6_hasResult_42 : decode cX6_hasResult 42 = .ok (.iinc 2 1, 3) := by decide +kernel
theorem dX6_hasResult_45 : decode cX6_hasResult 45 = .ok (.goto (-43), 3) := by decide +kernel
theorem dX6_hasResult_48 : decode cX6_hasResult 48 = .ok (.iconst 0, 1) := by decide +kernel
theorem dX6_hasResult_49 : decode cX6_hasResult 49 = .ok (.ireturn, 1) := by decide +kernel
theorem dJ9_max_7cf53_0 : decode cJ9_max_7cf53 0 = .ok (.iload_n 0, 1) := by decide +kernel
theorem dJ9_max_7cf53_1 : decode cJ9_max_7cf53 1 = .ok (.iload_n 1, 1) := by decide +kernel
theorem dJ9_max_7cf53_2 : decode cJ9_max_7cf53 2 = .ok (.if_icmp .lt 7, 3) := by decide +kernel
theorem dJ9_max_7cf53_5 : decode cJ9_max_7cf53 5 = .ok (.iload_n 0, 1) := by decide +kernel
theorem dJ9_max_7cf53_6 : decode cJ9_max_7cf53 6 = .ok (.goto 4, 3) := by decide +kernel
theorem dJ9_max_7cf53_9 : decode cJ9_max_7cf53 9 = .ok (.iload_n 1, 1) := by decide +kernel
theorem dJ9_max_7cf53_10 : decode cJ9_max_7cf53 10 = .ok (.ireturn, 1) := by decide +kernel
theorem dJ9_min_7cf53_0 : decode cJ9_min_7cf53 0 = .ok (.iload_n 0, 1) := by decide +kernel
theorem dJ9_min_7cf53_1 : decode cJ9_min_7cf53 1 = .ok (.iload_n 1, 1) := by decide +kernel
theorem dJ9_min_7cf53_2 : decode cJ9_min_7cf53 2 = .ok (.if_icmp .gt 7, 3) := by decide +kernel
theorem dJ9_min_7cf53_5 : decode cJ9_min_7cf53 5 = .ok (.iload_n 0, 1) := by decide +kernel
theorem dJ9_min_7cf53_6 : decode cJ9_min_7cf53 6 = .ok (.goto 4, 3) := by decide +kernel
theorem dJ9_min_7cf53_9 : decode cJ9_min_7cf53 9 = .ok (.iload_n 1, 1) := by decide +kernel
theorem dJ9_min_7cf53_10 : decode cJ9_min_7cf53 10 = .ok (.ireturn, 1) := by decide +kernel
theorem dJxa1e45_init_da8c8_0 : decode cJxa1e45_init_da8c8 0 = .ok (.aload_n 0, 1) := by decide +kernel
theorem dJxa1e45_init_da8c8_1 : decode cJxa1e45_init_da8c8 1 = .ok (.invokespecial 1, 3) := by decide +kernel
theorem dJxa1e45_init_da8c8_4 : decode cJxa1e45_init_da8c8 4 = .ok (.return_, 1) := by decide +kernel
theorem dJxc12de_init_da8c8_0 : decode cJxc12de_init_da8c8 0 = .ok (.aload_n 0, 1) := by decide +kernel
theorem dJxc12de_init_da8c8_1 : decode cJxc12de_init_da8c8 1 = .ok (.invokespecial 1, 3) := by decide +kernel
theorem dJxc12de_init_da8c8_4 : decode cJxc12de_init_da8c8 4 = .ok (.aload_n 0, 1) := by decide +kernel
theorem dJxc12de_init_da8c8_5 : decode cJxc12de_init_da8c8 5 = .ok (.iconst 0, 1) := by decide +kernel
theorem dJxc12de_init_da8c8_6 : decode cJxc12de_init_da8c8 6 = .ok (.putfield 7, 3) := by decide +kernel
theorem dJxc12de_init_da8c8_9 : decode cJxc12de_init_da8c8 9 = .ok (.return_, 1) := by decide +kernel
theorem dJx4a65c_init_da8c8_0 : decode cJx4a65c_init_da8c8 0 = .ok (.aload_n 0, 1) := by decide +kernel
theorem dJx4a65c_init_da8c8_1 : decode cJx4a65c_init_da8c8 1 = .ok (.invokespecial 1, 3) := by decide +kernel
theorem dJx4a65c_init_da8c8_4 : decode cJx4a65c_init_da8c8 4 = .ok (.aload_n 0, 1) := by decide +kernel
theorem dJx4a65c_init_da8c8_5 : decode cJx4a65c_init_da8c8 5 = .ok (.getstatic 39, 3) := by decide +kernel
theorem dJx4a65c_init_da8c8_8 : decode cJx4a65c_init_da8c8 8 = .ok (.putfield 9, 3) := by decide +kernel
theorem dJx4a65c_init_da8c8_11 : decode cJx4a65c_init_da8c8 11 = .ok (.return_, 1) := by decide +kernel
theorem dJx4a65c_grow_92f84_0 : decode cJx4a65c_grow_92f84 0 = .ok (.aload_n 0, 1) := by decide +kernel
theorem dJx4a65c_grow_92f84_1 : decode cJx4a65c_grow_92f84 1 = .ok (.getfield 9, 3) := by decide +kernel
theorem dJx4a65c_grow_92f84_4 : decode cJx4a65c_grow_92f84 4 = .ok (.arraylength, 1) := by decide +kernel
theorem dJx4a65c_grow_92f84_5 : decode cJx4a65c_grow_92f84 5 = .ok (.istore_n 2, 1) := by decide +kernel
theorem dJx4a65c_grow_92f84_6 : decode cJx4a65c_grow_92f84 6 = .ok (.iload_n 2, 1) := by decide +kernel
theorem dJx4a65c_grow_92f84_7 : decode cJx4a65c_grow_92f84 7 = .ok (.ifCond .gt 13, 3) := by decide +kernel
theorem dJx4a65c_grow_92f84_10 : decode cJx4a65c_grow_92f84 10 = .ok (.aload_n 0, 1) := by decide +kernel
theorem dJx4a65c_grow_92f84_11 : decode cJx4a65c_grow_92f84 11 = .ok (.getfield 9, 3) := by decide +kernel
theorem dJx4a65c_grow_92f84_14 : decode cJx4a65c_grow_92f84 14 = .ok (.getstatic 39, 3) := by decide +kernel
theorem dJx4a65c_grow_92f84_17 : decode cJx4a65c_grow_92f84 17 = .ok (.if_acmp .eq 28, 3) := by decide +kernel
theorem dJx4a65c_grow_92f84_20 : decode cJx4a65c_grow_92f84 20 = .ok (.iload_n 2, 1) := by decide +kernel
theorem dJx4a65c_grow_92f84_21 : decode cJx4a65c_grow_92f84 21 = .ok (.iload_n 1, 1) := by decide +kernel
theorem dJx4a65c_grow_92f84_22 : decode cJx4a65c_grow_92f84 22 = .ok (.iload_n 2, 1) := by decide +kernel
theorem dJx4a65c_grow_92f84_23 : decode cJx4a65c_grow_92f84 23 = .ok (.isub, 1) := by decide +kernel
theorem dJx4a65c_grow_92f84_24 : decode cJx4a65c_grow_92f84 24 = .ok (.iload_n 2, 1) := by decide +kernel
theorem dJx4a65c_grow_92f84_25 : decode cJx4a65c_grow_92f84 25 = .ok (.iconst 1, 1) := by decide +kernel
theorem dJx4a65c_grow_92f84_26 : decode cJx4a65c_grow_92f84 26 = .ok (.ishr, 1) := by decide +kernel
theorem dJx4a65c_grow_92f84_27 : decode cJx4a65c_grow_92f84 27 = .ok (.invokestatic 73, 3) := by decide +kernel
theorem dJx4a65c_grow_92f84_30 : decode cJx4a65c_grow_92f84 30 = .ok (.istore_n 3, 1) := by decide +kernel
theorem dJx4a65c_grow_92f84_31 : decode cJx4a65c_grow_92f84 31 = .ok (.aload_n 0, 1) := by decide +kernel
theorem dJx4a65c_grow_92f84_32 : decode cJx4a65c_grow_92f84 32 = .ok (.aload_n 0, 1) := by decide +kernel
theorem dJx4a65c_grow_92f84_33 : decode cJx4a65c_grow_92f84 33 = .ok (.getfield 9, 3) := by decide +kernel
theorem dJx4a65c_grow_92f84_36 : decode cJx4a65c_grow_92f84 36 = .ok (.iload_n 3, 1) := by decide +kernel
theorem dJx4a65c_grow_92f84_37 : decode cJx4a65c_grow_92f84 37 = .ok (.invokestatic 66, 3) := by decide +kernel
theorem dJx4a65c_grow_92f84_40 : decode cJx4a65c_grow_92f84 40 = .ok (.dup_x1, 1) := by decide +kernel
theorem dJx4a65c_grow_92f84_41 : decode cJx4a65c_grow_92f84 41 = .ok (.putfield 9, 3) := by decide +kernel
theorem dJx4a65c_grow_92f84_44 : decode cJx4a65c_grow_92f84 44 = .ok (.areturn, 1) := by decide +kernel
theorem dJx4a65c_grow_92f84_45 : decode cJx4a65c_grow_92f84 45 = .ok (.aload_n 0, 1) := by decide +kernel
theorem dJx4a65c_grow_92f84_46 : decode cJx4a65c_grow_92f84 46 = .ok (.bipush 10, 2) := by decide +kernel
theorem dJx4a65c_grow_92f84_48 : decode cJx4a65c_grow_92f84 48 = .ok (.iload_n 1, 1) := by decide +kernel
theorem dJx4a65c_grow_92f84_49 : decode cJx4a65c_grow_92f84 49 = .ok (.invokestatic 79, 3) := by decide +kernel
theorem dJx4a65c_grow_92f84_52 : decode cJx4a65c_grow_92f84 52 = .ok (.anewarray 7, 3) := by decide +kernel
theorem dJx4a65c_grow_92f84_55 : decode cJx4a65c_grow_92f84 55 = .ok (.dup_x1, 1) := by decide +kernel
theorem dJx4a65c_grow_92f84_56 : decode cJx4a65c_grow_92f84 56 = .ok (.putfield 9, 3) := by decide +kernel
theorem dJx4a65c_grow_92f84_59 : decode cJx4a65c_grow_92f84 59 = .ok (.areturn, 1) := by decide +kernel
theorem dJx4a65c_grow_d5877_0 : decode cJx4a65c_grow_d5877 0 = .ok (.aload_n 0, 1) := by decide +kernel
theorem dJx4a65c_grow_d5877_1 : decode cJx4a65c_grow_d5877 1 = .ok (.aload_n 0, 1) := by decide +kernel
theorem dJx4a65c_grow_d5877_2 : decode cJx4a65c_grow_d5877 2 = .ok (.getfield 48, 3) := by decide +kernel
theorem dJx4a65c_grow_d5877_5 : decode cJx4a65c_grow_d5877 5 = .ok (.iconst 1, 1) := by decide +kernel
theorem dJx4a65c_grow_d5877_6 : decode cJx4a65c_grow_d5877 6 = .ok (.iadd, 1) := by decide +kernel
theorem dJx4a65c_grow_d5877_7 : decode cJx4a65c_grow_d5877 7 = .ok (.invokevirtual 69, 3) := by decide +kernel
theorem dJx4a65c_grow_d5877_10 : decode cJx4a65c_grow_d5877 10 = .ok (.areturn, 1) := by decide +kernel
theorem dJx4a65c_size_8abf5_0 : decode cJx4a65c_size_8abf5 0 = .ok (.aload_n 0, 1) := by decide +kernel
theorem dJx4a65c_size_8abf5_1 : decode cJx4a65c_size_8abf5 1 = .ok (.getfield 48, 3) := by decide +kernel
theorem dJx4a65c_size_8abf5_4 : decode cJx4a65c_size_8abf5 4 = .ok (.ireturn, 1) := by decide +kernel
theorem dJx4a65c_elementData_915e3_0 : decode cJx4a65c_elementData_915e3 0 = .ok (.aload_n 0, 1) := by decide +kernel
theorem dJx4a65c_elementData_915e3_1 : decode cJx4a65c_elementData_915e3 1 = .ok (.getfield 9, 3) := by decide +kernel
theorem dJx4a65c_elementData_915e3_4 : decode cJx4a65c_elementData_915e3 4 = .ok (.iload_n 1, 1) := by decide +kernel
theorem dJx4a65c_elementData_915e3_5 : decode cJx4a65c_elementData_915e3 5 = .ok (.aaload, 1) := by decide +kernel
theorem dJx4a65c_elementData_915e3_6 : decode cJx4a65c_elementData_915e3 6 = .ok (.areturn, 1) := by decide +kernel
theorem dJx4a65c_get_915e3_0 : decode cJx4a65c_get_915e3 0 = .ok (.iload_n 1, 1) := by decide +kernel
theorem dJx4a65c_get_915e3_1 : decode cJx4a65c_get_915e3 1 = .ok (.aload_n 0, 1) := by decide +kernel
theorem dJx4a65c_get_915e3_2 : decode cJx4a65c_get_915e3 2 = .ok (.getfield 48, 3) := by decide +kernel
theorem dJx4a65c_get_915e3_5 : decode cJx4a65c_get_915e3 5 = .ok (.invokestatic 118, 3) := by decide +kernel
theorem dJx4a65c_get_915e3_8 : decode cJx4a65c_get_915e3 8 = .ok (.pop, 1) := by decide +kernel
theorem dJx4a65c_get_915e3_9 : decode cJx4a65c_get_915e3 9 = .ok (.aload_n 0, 1) := by decide +kernel
theorem dJx4a65c_get_915e3_10 : decode cJx4a65c_get_915e3 10 = .ok (.iload_n 1, 1) := by decide +kernel
theorem dJx4a65c_get_915e3_11 : decode cJx4a65c_get_915e3 11 = .ok (.invokevirtual 123, 3) := by decide +kernel
theorem dJx4a65c_get_915e3_14 : decode cJx4a65c_get_915e3 14 = .ok (.areturn, 1) := by decide +kernel
theorem dJx4a65c_add_72be8_0 : decode cJx4a65c_add_72be8 0 = .ok (.iload_n 3, 1) := by decide +kernel
theorem dJx4a65c_add_72be8_1 : decode cJx4a65c_add_72be8 1 = .ok (.aload_n 2, 1) := by decide +kernel
theorem dJx4a65c_add_72be8_2 : decode cJx4a65c_add_72be8 2 = .ok (.arraylength, 1) := by decide +kernel
theorem dJx4a65c_add_72be8_3 : decode cJx4a65c_add_72be8 3 = .ok (.if_icmp .ne 8, 3) := by decide +kernel
theorem dJx4a65c_add_72be8_6 : decode cJx4a65c_add_72be8 6 = .ok (.aload_n 0, 1) := by decide +kernel
theorem dJx4a65c_add_72be8_7 : decode cJx4a65c_add_72be8 7 = .ok (.invokevirtual 129, 3) := by decide +kernel
theorem dJx4a65c_add_72be8_10 : decode cJx4a65c_add_72be8 10 = .ok (.astore_n 2, 1) := by decide +kernel
theorem dJx4a65c_add_72be8_11 : decode cJx4a65c_add_72be8 11 = .ok (.aload_n 2, 1) := by decide +kernel
theorem dJx4a65c_add_72be8_12 : decode cJx4a65c_add_72be8 12 = .ok (.iload_n 3, 1) := by decide +kernel
theorem dJx4a65c_add_72be8_13 : decode cJx4a65c_add_72be8 13 = .ok (.aload_n 1, 1) := by decide +kernel
theorem dJx4a65c_add_72be8_14 : decode cJx4a65c_add_72be8 14 = .ok (.aastore, 1) := by decide +kernel
theorem dJx4a65c_add_72be8_15 : decode cJx4a65c_add_72be8 15 = .ok (.aload_n 0, 1) := by decide +kernel
theorem dJx4a65c_add_72be8_16 : decode cJx4a65c_add_72be8 16 = .ok (.iload_n 3, 1) := by decide +kernel
theorem dJx4a65c_add_72be8_17 : decode cJx4a65c_add_72be8 17 = .ok (.iconst 1, 1) := by decide +kernel
theorem dJx4a65c_add_72be8_18 : decode cJx4a65c_add_72be8 18 = .ok (.iadd, 1) := by decide +kernel
theorem dJx4a65c_add_72be8_19 : decode cJx4a65c_add_72be8 19 = .ok (.putfield 48, 3) := by decide +kernel
theorem dJx4a65c_add_72be8_22 : decode cJx4a65c_add_72be8 22 = .ok (.return_, 1) := by decide +kernel
theorem dJx4a65c_add_9ea2d_0 : decode cJx4a65c_add_9ea2d 0 = .ok (.aload_n 0, 1) := by decide +kernel
theorem dJx4a65c_add_9ea2d_1 : decode cJx4a65c_add_9ea2d 1 = .ok (.dup, 1) := by decide +kernel
theorem dJx4a65c_add_9ea2d_2 : decode cJx4a65c_add_9ea2d 2 = .ok (.getfield 63, 3) := by decide +kernel
theorem dJx4a65c_add_9ea2d_5 : decode cJx4a65c_add_9ea2d 5 = .ok (.iconst 1, 1) := by decide +kernel
theorem dJx4a65c_add_9ea2d_6 : decode cJx4a65c_add_9ea2d 6 = .ok (.iadd, 1) := by decide +kernel
theorem dJx4a65c_add_9ea2d_7 : decode cJx4a65c_add_9ea2d 7 = .ok (.putfield 63, 3) := by decide +kernel
theorem dJx4a65c_add_9ea2d_10 : decode cJx4a65c_add_9ea2d 10 = .ok (.aload_n 0, 1) := by decide +kernel
theorem dJx4a65c_add_9ea2d_11 : decode cJx4a65c_add_9ea2d 11 = .ok (.aload_n 1, 1) := by decide +kernel
theorem dJx4a65c_add_9ea2d_12 : decode cJx4a65c_add_9ea2d 12 = .ok (.aload_n 0, 1) := by decide +kernel
theorem dJx4a65c_add_9ea2d_13 : decode cJx4a65c_add_9ea2d 13 = .ok (.getfield 9, 3) := by decide +kernel
theorem dJx4a65c_add_9ea2d_16 : decode cJx4a65c_add_9ea2d 16 = .ok (.aload_n 0, 1) := by decide +kernel
theorem dJx4a65c_add_9ea2d_17 : decode cJx4a65c_add_9ea2d 17 = .ok (.getfield 48, 3) := by decide +kernel
theorem dJx4a65c_add_9ea2d_20 : decode cJx4a65c_add_9ea2d 20 = .ok (.invokevirtual 131, 3) := by decide +kernel
theorem dJx4a65c_add_9ea2d_23 : decode cJx4a65c_add_9ea2d 23 = .ok (.iconst 1, 1) := by decide +kernel
theorem dJx4a65c_add_9ea2d_24 : decode cJx4a65c_add_9ea2d 24 = .ok (.ireturn, 1) := by decide +kernel
theorem dJ7_copyOf_1904c_0 : decode cJ7_copyOf_1904c 0 = .ok (.aload_n 0, 1) := by decide +kernel
theorem dJ7_copyOf_1904c_1 : decode cJ7_copyOf_1904c 1 = .ok (.iload_n 1, 1) := by decide +kernel
theorem dJ7_copyOf_1904c_2 : decode cJ7_copyOf_1904c 2 = .ok (.aload_n 0, 1) := by decide +kernel
theorem dJ7_copyOf_1904c_3 : decode cJ7_copyOf_1904c 3 = .ok (.invokevirtual 86, 3) := by decide +kernel
theorem dJ7_copyOf_1904c_6 : decode cJ7_copyOf_1904c 6 = .ok (.invokestatic 300, 3) := by decide +kernel
theorem dJ7_copyOf_1904c_9 : decode cJ7_copyOf_1904c 9 = .ok (.areturn, 1) := by decide +kernel
theorem dJ7_copyOf_6403c_0 : decode cJ7_copyOf_6403c 0 = .ok (.aload_n 2, 1) := by decide +kernel
theorem dJ7_copyOf_6403c_1 : decode cJ7_copyOf_6403c 1 = .ok (.ldc 110, 2) := by decide +kernel
theorem dJ7_copyOf_6403c_3 : decode cJ7_copyOf_6403c 3 = .ok (.if_acmp .ne 10, 3) := by decide +kernel
theorem dJ7_copyOf_6403c_6 : decode cJ7_copyOf_6403c 6 = .ok (.iload_n 1, 1) := by decide +kernel
theorem dJ7_copyOf_6403c_7 : decode cJ7_copyOf_6403c 7 = .ok (.anewarray 2, 3) := by decide +kernel
theorem dJ7_copyOf_6403c_10 : decode cJ7_copyOf_6403c 10 = .ok (.goto 14, 3) := by decide +kernel
theorem dJ7_copyOf_6403c_13 : decode cJ7_copyOf_6403c 13 = .ok (.aload_n 2, 1) := by decide +kernel
theorem dJ7_copyOf_6403c_14 : decode cJ7_copyOf_6403c 14 = .ok (.invokevirtual 90, 3) := by decide +kernel
theorem dJ7_copyOf_6403c_17 : decode cJ7_copyOf_6403c 17 = .ok (.iload_n 1, 1) := by decide +kernel
theorem dJ7_copyOf_6403c_18 : decode cJ7_copyOf_6403c 18 = .ok (.invokestatic 95, 3) := by decide +kernel
theorem dJ7_copyOf_6403c_21 : decode cJ7_copyOf_6403c 21 = .ok (.checkcast 110, 3) := by decide +kernel
theorem dJ7_copyOf_6403c_24 : decode cJ7_copyOf_6403c 24 = .ok (.astore_n 3, 1) := by decide +kernel
theorem dJ7_copyOf_6403c_25 : decode cJ7_copyOf_6403c 25 = .ok (.aload_n 0, 1) := by decide +kernel
theorem dJ7_copyOf_6403c_26 : decode cJ7_copyOf_6403c 26 = .ok (.iconst 0, 1) := by decide +kernel
theorem dJ7_copyOf_6403c_27 : decode cJ7_copyOf_6403c 27 = .ok (.aload_n 3, 1) := by decide +kernel
theorem dJ7_copyOf_6403c_28 : decode cJ7_copyOf_6403c 28 = .ok (.iconst 0, 1) := by decide +kernel
theorem dJ7_copyOf_6403c_29 : decode cJ7_copyOf_6403c 29 = .ok (.aload_n 0, 1) := by decide +kernel
theorem dJ7_copyOf_6403c_30 : decode cJ7_copyOf_6403c 30 = .ok (.arraylength, 1) := by decide +kernel
theorem dJ7_copyOf_6403c_31 : decode cJ7_copyOf_6403c 31 = .ok (.iload_n 1, 1) := by decide +kernel
theorem dJ7_copyOf_6403c_32 : decode cJ7_copyOf_6403c 32 = .ok (.invokestatic 304, 3) := by decide +kernel
theorem dJ7_copyOf_6403c_35 : decode cJ7_copyOf_6403c 35 = .ok (.invokestatic 150, 3) := by decide +kernel
theorem dJ7_copyOf_6403c_38 : decode cJ7_copyOf_6403c 38 = .ok (.aload_n 3, 1) := by decide +kernel
theorem dJ7_copyOf_6403c_39 : decode cJ7_copyOf_6403c 39 = .ok (.areturn, 1) := by decide +kernel
theorem dJ15_checkIndex_7cf53_0 : decode cJ15_checkIndex_7cf53 0 = .ok (.iload_n 0, 1) := by decide +kernel
theorem dJ15_checkIndex_7cf53_1 : decode cJ15_checkIndex_7cf53 1 = .ok (.iload_n 1, 1) := by decide +kernel
theorem dJ15_checkIndex_7cf53_2 : decode cJ15_checkIndex_7cf53 2 = .ok (.aconst_null, 1) := by decide +kernel
theorem dJ15_checkIndex_7cf53_3 : decode cJ15_checkIndex_7cf53 3 = .ok (.invokestatic 105, 3) := by decide +kernel
theorem dJ15_checkIndex_7cf53_6 : decode cJ15_checkIndex_7cf53 6 = .ok (.ireturn, 1) := by decide +kernel
theorem dJ8_newLength_cabcc_0 : decode cJ8_newLength_cabcc 0 = .ok (.iload_n 0, 1) := by decide +kernel
theorem dJ8_newLength_cabcc_1 : decode cJ8_newLength_cabcc 1 = .ok (.iload_n 1, 1) := by decide +kernel
theorem dJ8_newLength_cabcc_2 : decode cJ8_newLength_cabcc 2 = .ok (.iload_n 2, 1) := by decide +kernel
theorem dJ8_newLength_cabcc_3 : decode cJ8_newLength_cabcc 3 = .ok (.invokestatic 194, 3) := by decide +kernel
theorem dJ8_newLength_cabcc_6 : decode cJ8_newLength_cabcc 6 = .ok (.iadd, 1) := by decide +kernel
theorem dJ8_newLength_cabcc_7 : decode cJ8_newLength_cabcc 7 = .ok (.istore_n 3, 1) := by decide +kernel
theorem dJ8_newLength_cabcc_8 : decode cJ8_newLength_cabcc 8 = .ok (.iconst 0, 1) := by decide +kernel
theorem dJ8_newLength_cabcc_9 : decode cJ8_newLength_cabcc 9 = .ok (.iload_n 3, 1) := by decide +kernel
theorem dJ8_newLength_cabcc_10 : decode cJ8_newLength_cabcc 10 = .ok (.if_icmp .ge 11, 3) := by decide +kernel
theorem dJ8_newLength_cabcc_13 : decode cJ8_newLength_cabcc 13 = .ok (.iload_n 3, 1) := by decide +kernel
theorem dJ8_newLength_cabcc_14 : decode cJ8_newLength_cabcc 14 = .ok (.ldc 200, 2) := by decide +kernel
theorem dJ8_newLength_cabcc_16 : decode cJ8_newLength_cabcc 16 = .ok (.if_icmp .gt 5, 3) := by decide +kernel
theorem dJ8_newLength_cabcc_19 : decode cJ8_newLength_cabcc 19 = .ok (.iload_n 3, 1) := by decide +kernel
theorem dJ8_newLength_cabcc_20 : decode cJ8_newLength_cabcc 20 = .ok (.ireturn, 1) := by decide +kernel
theorem dJ8_newLength_cabcc_21 : decode cJ8_newLength_cabcc 21 = .ok (.iload_n 0, 1) := by decide +kernel
theorem dJ8_newLength_cabcc_22 : decode cJ8_newLength_cabcc 22 = .ok (.iload_n 1, 1) := by decide +kernel
theorem dJ8_newLength_cabcc_23 : decode cJ8_newLength_cabcc 23 = .ok (.invokestatic 201, 3) := by decide +kernel
theorem dJ8_newLength_cabcc_26 : decode cJ8_newLength_cabcc 26 = .ok (.ireturn, 1) := by decide +kernel
theorem dJ8_hugeLength_7cf53_0 : decode cJ8_hugeLength_7cf53 0 = .ok (.iload_n 0, 1) := by decide +kernel
theorem dJ8_hugeLength_7cf53_1 : decode cJ8_hugeLength_7cf53 1 = .ok (.iload_n 1, 1) := by decide +kernel
theorem dJ8_hugeLength_7cf53_2 : decode cJ8_hugeLength_7cf53 2 = .ok (.iadd, 1) := by decide +kernel
theorem dJ8_hugeLength_7cf53_3 : decode cJ8_hugeLength_7cf53 3 = .ok (.istore_n 2, 1) := by decide +kernel
theorem dJ8_hugeLength_7cf53_4 : decode cJ8_hugeLength_7cf53 4 = .ok (.iload_n 2, 1) := by decide +kernel
theorem dJ8_hugeLength_7cf53_5 : decode cJ8_hugeLength_7cf53 5 = .ok (.ifCond .ge 44, 3) := by decide +kernel
theorem dJ8_hugeLength_7cf53_8 : decode cJ8_hugeLength_7cf53 8 = .ok (.new 204, 3) := by decide +kernel
theorem dJ8_hugeLength_7cf53_11 : decode cJ8_hugeLength_7cf53 11 = .ok (.dup, 1) := by decide +kernel
theorem dJ8_hugeLength_7cf53_12 : decode cJ8_hugeLength_7cf53 12 = .ok (.new 89, 3) := by decide +kernel
theorem dJ8_hugeLength_7cf53_15 : decode cJ8_hugeLength_7cf53 15 = .ok (.dup, 1) := by decide +kernel
theorem dJ8_hugeLength_7cf53_16 : decode cJ8_hugeLength_7cf53 16 = .ok (.invokespecial 91, 3) := by decide +kernel
theorem dJ8_hugeLength_7cf53_19 : decode cJ8_hugeLength_7cf53 19 = .ok (.ldc 206, 2) := by decide +kernel
theorem dJ8_hugeLength_7cf53_21 : decode cJ8_hugeLength_7cf53 21 = .ok (.invokevirtual 94, 3) := by decide +kernel
theorem dJ8_hugeLength_7cf53_24 : decode cJ8_hugeLength_7cf53 24 = .ok (.iload_n 0, 1) := by decide +kernel
theorem dJ8_hugeLength_7cf53_25 : decode cJ8_hugeLength_7cf53 25 = .ok (.invokevirtual 98, 3) := by decide +kernel
theorem dJ8_hugeLength_7cf53_28 : decode cJ8_hugeLength_7cf53 28 = .ok (.ldc 208, 2) := by decide +kernel
theorem dJ8_hugeLength_7cf53_30 : decode cJ8_hugeLength_7cf53 30 = .ok (.invokevirtual 94, 3) := by decide +kernel
theorem dJ8_hugeLength_7cf53_33 : decode cJ8_hugeLength_7cf53 33 = .ok (.iload_n 1, 1) := by decide +kernel
theorem dJ8_hugeLength_7cf53_34 : decode cJ8_hugeLength_7cf53 34 = .ok (.invokevirtual 98, 3) := by decide +kernel
theorem dJ8_hugeLength_7cf53_37 : decode cJ8_hugeLength_7cf53 37 = .ok (.ldc 210, 2) := by decide +kernel
theorem dJ8_hugeLength_7cf53_39 : decode cJ8_hugeLength_7cf53 39 = .ok (.invokevirtual 94, 3) := by decide +kernel
theorem dJ8_hugeLength_7cf53_42 : decode cJ8_hugeLength_7cf53 42 = .ok (.invokevirtual 101, 3) := by decide +kernel
theorem dJ8_hugeLength_7cf53_45 : decode cJ8_hugeLength_7cf53 45 = .ok (.invokespecial 212, 3) := by decide +kernel
theorem dJ8_hugeLength_7cf53_48 : decode cJ8_hugeLength_7cf53 48 = .ok (.athrow, 1) := by decide +kernel
theorem dJ8_hugeLength_7cf53_49 : decode cJ8_hugeLength_7cf53 49 = .ok (.iload_n 2, 1) := by decide +kernel
theorem dJ8_hugeLength_7cf53_50 : decode cJ8_hugeLength_7cf53 50 = .ok (.ldc 200, 2) := by decide +kernel
theorem dJ8_hugeLength_7cf53_52 : decode cJ8_hugeLength_7cf53 52 = .ok (.if_icmp .gt 6, 3) := by decide +kernel
theorem dJ8_hugeLength_7cf53_55 : decode cJ8_hugeLength_7cf53 55 = .ok (.ldc 200, 2) := by decide +kernel
theorem dJ8_hugeLength_7cf53_57 : decode cJ8_hugeLength_7cf53 57 = .ok (.ireturn, 1) := by decide +kernel
theorem dJ8_hugeLength_7cf53_58 : decode cJ8_hugeLength_7cf53 58 = .ok (.iload_n 2, 1) := by decide +kernel
theorem dJ8_hugeLength_7cf53_59 : decode cJ8_hugeLength_7cf53 59 = .ok (.ireturn, 1) := by decide +kernel
theorem dJ3_checkIndex_8e157_0 : decode cJ3_checkIndex_8e157 0 = .ok (.iload_n 0, 1) := by decide +kernel
theorem dJ3_checkIndex_8e157_1 : decode cJ3_checkIndex_8e157 1 = .ok (.ifCond .lt 8, 3) := by decide +kernel
theorem dJ3_checkIndex_8e157_4 : decode cJ3_checkIndex_8e157 4 = .ok (.iload_n 0, 1) := by decide +kernel
theorem dJ3_checkIndex_8e157_5 : decode cJ3_checkIndex_8e157 5 = .ok (.iload_n 1, 1) := by decide +kernel
theorem dJ3_checkIndex_8e157_6 : decode cJ3_checkIndex_8e157 6 = .ok (.if_icmp .lt 10, 3) := by decide +kernel
theorem dJ3_checkIndex_8e157_9 : decode cJ3_checkIndex_8e157 9 = .ok (.aload_n 2, 1) := by decide +kernel
theorem dJ3_checkIndex_8e157_10 : decode cJ3_checkIndex_8e157 10 = .ok (.iload_n 0, 1) := by decide +kernel
theorem dJ3_checkIndex_8e157_11 : decode cJ3_checkIndex_8e157 11 = .ok (.iload_n 1, 1) := by decide +kernel
theorem dJ3_checkIndex_8e157_12 : decode cJ3_checkIndex_8e157 12 = .ok (.invokestatic 95, 3) := by decide +kernel
theorem dJ3_checkIndex_8e157_15 : decode cJ3_checkIndex_8e157 15 = .ok (.athrow, 1) := by decide +kernel
theorem dJ3_checkIndex_8e157_16 : decode cJ3_checkIndex_8e157 16 = .ok (.iload_n 0, 1) := by decide +kernel
theorem dJ3_checkIndex_8e157_17 : decode cJ3_checkIndex_8e157 17 = .ok (.ireturn, 1) := by decide +kernel
theorem dL_cell_0 : decode cL_cell 0 = .ok (.ldc 7, 2) := by decide +kernel
theorem dL_cell_2 : decode cL_cell 2 = .ok (.iload_n 1, 1) := by decide +kernel
theorem dL_cell_3 : decode cL_cell 3 = .ok (.aload_n 0, 1) := by decide +kernel
theorem dL_cell_4 : decode cL_cell 4 = .ok (.arraylength, 1) := by decide +kernel
theorem dL_cell_5 : decode cL_cell 5 = .ok (.if_icmp .ge 9, 3) := by decide +kernel
theorem dL_cell_8 : decode cL_cell 8 = .ok (.aload_n 0, 1) := by decide +kernel
theorem dL_cell_9 : decode cL_cell 9 = .ok (.iload_n 1, 1) := by decide +kernel
theorem dL_cell_10 : decode cL_cell 10 = .ok (.iaload, 1) := by decide +kernel
theorem dL_cell_11 : decode cL_cell 11 = .ok (.goto 4, 3) := by decide +kernel
theorem dL_cell_14 : decode cL_cell 14 = .ok (.iconst 0, 1) := by decide +kernel
theorem dL_cell_15 : decode cL_cell 15 = .ok (.sipush 1009, 3) := by decide +kernel
theorem dL_cell_18 : decode cL_cell 18 = .ok (.iload_n 1, 1) := by decide +kernel
theorem dL_cell_19 : decode cL_cell 19 = .ok (.imul, 1) := by decide +kernel
theorem dL_cell_20 : decode cL_cell 20 = .ok (.iadd, 1) := by decide +kernel
theorem dL_cell_21 : decode cL_cell 21 = .ok (.imul, 1) := by decide +kernel
theorem dL_cell_22 : decode cL_cell 22 = .ok (.sipush 12345, 3) := by decide +kernel
theorem dL_cell_25 : decode cL_cell 25 = .ok (.iadd, 1) := by decide +kernel
theorem dL_cell_26 : decode cL_cell 26 = .ok (.istore_n 2, 1) := by decide +kernel
theorem dL_cell_27 : decode cL_cell 27 = .ok (.iload_n 2, 1) := by decide +kernel
theorem dL_cell_28 : decode cL_cell 28 = .ok (.iload_n 2, 1) := by decide +kernel
theorem dL_cell_29 : decode cL_cell 29 = .ok (.bipush 13, 2) := by decide +kernel
theorem dL_cell_31 : decode cL_cell 31 = .ok (.iushr, 1) := by decide +kernel
theorem dL_cell_32 : decode cL_cell 32 = .ok (.ixor, 1) := by decide +kernel
theorem dL_cell_33 : decode cL_cell 33 = .ok (.ldc 8, 2) := by decide +kernel
theorem dL_cell_35 : decode cL_cell 35 = .ok (.imul, 1) := by decide +kernel
theorem dL_cell_36 : decode cL_cell 36 = .ok (.istore_n 2, 1) := by decide +kernel
theorem dL_cell_37 : decode cL_cell 37 = .ok (.iload_n 2, 1) := by decide +kernel
theorem dL_cell_38 : decode cL_cell 38 = .ok (.iload_n 2, 1) := by decide +kernel
theorem dL_cell_39 : decode cL_cell 39 = .ok (.bipush 16, 2) := by decide +kernel
theorem dL_cell_41 : decode cL_cell 41 = .ok (.iushr, 1) := by decide +kernel
theorem dL_cell_42 : decode cL_cell 42 = .ok (.ixor, 1) := by decide +kernel
theorem dL_cell_43 : decode cL_cell 43 = .ok (.ireturn, 1) := by decide +kernel
theorem dL_athlete_0 : decode cL_athlete 0 = .ok (.aload_n 0, 1) := by decide +kernel
theorem dL_athlete_1 : decode cL_athlete 1 = .ok (.iload_n 1, 1) := by decide +kernel
theorem dL_athlete_2 : decode cL_athlete 2 = .ok (.invokevirtual 9, 3) := by decide +kernel
theorem dL_athlete_5 : decode cL_athlete 5 = .ok (.ireturn, 1) := by decide +kernel
theorem dL_athlete_6 : decode cL_athlete 6 = .ok (.astore_n 2, 1) := by decide +kernel
theorem dL_athlete_7 : decode cL_athlete 7 = .ok (.ldc 17, 2) := by decide +kernel
theorem dL_athlete_9 : decode cL_athlete 9 = .ok (.ireturn, 1) := by decide +kernel
theorem dL_athlete_10 : decode cL_athlete 10 = .ok (.astore_n 2, 1) := by decide +kernel
theorem dL_athlete_11 : decode cL_athlete 11 = .ok (.ldc 20, 2) := by decide +kernel
theorem dL_athlete_13 : decode cL_athlete 13 = .ok (.ireturn, 1) := by decide +kernel
theorem dL_body_0 : decode cL_body 0 = .ok (.aload_n 0, 1) := by decide +kernel
theorem dL_body_1 : decode cL_body 1 = .ok (.iload_n 1, 1) := by decide +kernel
theorem dL_body_2 : decode cL_body 2 = .ok (.iload_n 2, 1) := by decide +kernel
theorem dL_body_3 : decode cL_body 3 = .ok (.iload_n 3, 1) := by decide +kernel
theorem dL_body_4 : decode cL_body 4 = .ok (.invokevirtual 21, 3) := by decide +kernel
theorem dL_body_7 : decode cL_body 7 = .ok (.ireturn, 1) := by decide +kernel
theorem dL_body_8 : decode cL_body 8 = .ok (.astore 4, 2) := by decide +kernel
theorem dL_body_10 : decode cL_body 10 = .ok (.ldc 17, 2) := by decide +kernel
theorem dL_body_12 : decode cL_body 12 = .ok (.ireturn, 1) := by decide +kernel
theorem dL_body_13 : decode cL_body 13 = .ok (.astore 4, 2) := by decide +kernel
theorem dL_body_15 : decode cL_body 15 = .ok (.ldc 20, 2) := by decide +kernel
theorem dL_body_17 : decode cL_body 17 = .ok (.ireturn, 1) := by decide +kernel
theorem dL_show_0 : decode cL_show 0 = .ok (.aload_n 0, 1) := by decide +kernel
theorem dL_show_1 : decode cL_show 1 = .ok (.iload_n 1, 1) := by decide +kernel
theorem dL_show_2 : decode cL_show 2 = .ok (.iload_n 2, 1) := by decide +kernel
theorem dL_show_3 : decode cL_show 3 = .ok (.iload_n 3, 1) := by decide +kernel
theorem dL_show_4 : decode cL_show 4 = .ok (.invokevirtual 27, 3) := by decide +kernel
theorem dL_show_7 : decode cL_show 7 = .ok (.ireturn, 1) := by decide +kernel
theorem dL_show_8 : decode cL_show 8 = .ok (.astore 4, 2) := by decide +kernel
theorem dL_show_10 : decode cL_show 10 = .ok (.ldc 17, 2) := by decide +kernel
theorem dL_show_12 : decode cL_show 12 = .ok (.ireturn, 1) := by decide +kernel
theorem dL_show_13 : decode cL_show 13 = .ok (.astore 4, 2) := by decide +kernel
theorem dL_show_15 : decode cL_show 15 = .ok (.ldc 20, 2) := by decide +kernel
theorem dL_show_17 : decode cL_show 17 = .ok (.ireturn, 1) := by decide +kernel
theorem dL_found_0 : decode cL_found 0 = .ok (.aload_n 0, 1) := by decide +kernel
theorem dL_found_1 : decode cL_found 1 = .ok (.iload_n 1, 1) := by decide +kernel
theorem dL_found_2 : decode cL_found 2 = .ok (.iload_n 2, 1) := by decide +kernel
theorem dL_found_3 : decode cL_found 3 = .ok (.invokevirtual 30, 3) := by decide +kernel
theorem dL_found_6 : decode cL_found 6 = .ok (.ireturn, 1) := by decide +kernel
theorem dL_found_7 : decode cL_found 7 = .ok (.astore_n 3, 1) := by decide +kernel
theorem dL_found_8 : decode cL_found 8 = .ok (.ldc 17, 2) := by decide +kernel
theorem dL_found_10 : decode cL_found 10 = .ok (.ireturn, 1) := by decide +kernel
theorem dL_found_11 : decode cL_found 11 = .ok (.astore_n 3, 1) := by decide +kernel
theorem dL_found_12 : decode cL_found 12 = .ok (.ldc 20, 2) := by decide +kernel
theorem dL_found_14 : decode cL_found 14 = .ok (.ireturn, 1) := by decide +kernel
theorem dL_found_15 : decode cL_found 15 = .ok (.astore_n 3, 1) := by decide +kernel
theorem dL_found_16 : decode cL_found 16 = .ok (.ldc 36, 2) := by decide +kernel
theorem dL_found_18 : decode cL_found 18 = .ok (.ireturn, 1) := by decide +kernel
theorem dL_classifier_0 : decode cL_classifier 0 = .ok (.aload_n 0, 1) := by decide +kernel
theorem dL_classifier_1 : decode cL_classifier 1 = .ok (.iload_n 1, 1) := by decide +kernel
theorem dL_classifier_2 : decode cL_classifier 2 = .ok (.invokevirtual 37, 3) := by decide +kernel
theorem dL_classifier_5 : decode cL_classifier 5 = .ok (.ireturn, 1) := by decide +kernel
theorem dL_classifier_6 : decode cL_classifier 6 = .ok (.astore_n 2, 1) := by decide +kernel
theorem dL_classifier_7 : decode cL_classifier 7 = .ok (.ldc 17, 2) := by decide +kernel
theorem dL_classifier_9 : decode cL_classifier 9 = .ok (.ireturn, 1) := by decide +kernel
theorem dL_classifier_10 : decode cL_classifier 10 = .ok (.astore_n 2, 1) := by decide +kernel
theorem dL_classifier_11 : decode cL_classifier 11 = .ok (.ldc 20, 2) := by decide +kernel
theorem dL_classifier_13 : decode cL_classifier 13 = .ok (.ireturn, 1) := by decide +kernel
theorem dL_kind_0 : decode cL_kind 0 = .ok (.aload_n 0, 1) := by decide +kernel
theorem dL_kind_1 : decode cL_kind 1 = .ok (.iload_n 1, 1) := by decide +kernel
theorem dL_kind_2 : decode cL_kind 2 = .ok (.iload_n 2, 1) := by decide +kernel
theorem dL_kind_3 : decode cL_kind 3 = .ok (.iload_n 3, 1) := by decide +kernel
theorem dL_kind_4 : decode cL_kind 4 = .ok (.iload 4, 2) := by decide +kernel
theorem dL_kind_6 : decode cL_kind 6 = .ok (.invokevirtual 40, 3) := by decide +kernel
theorem dL_kind_9 : decode cL_kind 9 = .ok (.ireturn, 1) := by decide +kernel
theorem dL_kind_10 : decode cL_kind 10 = .ok (.astore 5, 2) := by decide +kernel
theorem dL_kind_12 : decode cL_kind 12 = .ok (.ldc 17, 2) := by decide +kernel
theorem dL_kind_14 : decode cL_kind 14 = .ok (.ireturn, 1) := by decide +kernel
theorem dL_kind_15 : decode cL_kind 15 = .ok (.astore 5, 2) := by decide +kernel
theorem dL_kind_17 : decode cL_kind 17 = .ok (.ldc 20, 2) := by decide +kernel
theorem dL_kind_19 : decode cL_kind 19 = .ok (.ireturn, 1) := by decide +kernel
theorem dL_belongs_0 : decode cL_belongs 0 = .ok (.aload_n 0, 1) := by decide +kernel
theorem dL_belongs_1 : decode cL_belongs 1 = .ok (.iload_n 1, 1) := by decide +kernel
theorem dL_belongs_2 : decode cL_belongs 2 = .ok (.invokevirtual 44, 3) := by decide +kernel
theorem dL_belongs_5 : decode cL_belongs 5 = .ok (.ireturn, 1) := by decide +kernel
theorem dL_belongs_6 : decode cL_belongs 6 = .ok (.astore_n 2, 1) := by decide +kernel
theorem dL_belongs_7 : decode cL_belongs 7 = .ok (.ldc 17, 2) := by decide +kernel
theorem dL_belongs_9 : decode cL_belongs 9 = .ok (.ireturn, 1) := by decide +kernel
theorem dL_test_0 : decode cL_test 0 = .ok (.aload_n 0, 1) := by decide +kernel
theorem dL_test_1 : decode cL_test 1 = .ok (.iload_n 1, 1) := by decide +kernel
theorem dL_test_2 : decode cL_test 2 = .ok (.iload_n 2, 1) := by decide +kernel
theorem dL_test_3 : decode cL_test 3 = .ok (.iload_n 3, 1) := by decide +kernel
theorem dL_test_4 : decode cL_test 4 = .ok (.invokevirtual 47, 3) := by decide +kernel
theorem dL_test_7 : decode cL_test 7 = .ok (.ireturn, 1) := by decide +kernel
theorem dL_test_8 : decode cL_test 8 = .ok (.astore 4, 2) := by decide +kernel
theorem dL_test_10 : decode cL_test 10 = .ok (.ldc 17, 2) := by decide +kernel
theorem dL_test_12 : decode cL_test 12 = .ok (.ireturn, 1) := by decide +kernel
theorem dL_test_13 : decode cL_test 13 = .ok (.astore 4, 2) := by decide +kernel
theorem dL_test_15 : decode cL_test 15 = .ok (.ldc 20, 2) := by decide +kernel
theorem dL_test_17 : decode cL_test 17 = .ok (.ireturn, 1) := by decide +kernel
theorem dL_test_18 : decode cL_test 18 = .ok (.astore 4, 2) := by decide +kernel
theorem dL_test_20 : decode cL_test 20 = .ok (.ldc 36, 2) := by decide +kernel
theorem dL_test_22 : decode cL_test 22 = .ok (.ireturn, 1) := by decide +kernel
theorem dL_status_0 : decode cL_status 0 = .ok (.aload_n 0, 1) := by decide +kernel
theorem dL_status_1 : decode cL_status 1 = .ok (.iload_n 1, 1) := by decide +kernel
theorem dL_status_2 : decode cL_status 2 = .ok (.invokevirtual 53, 3) := by decide +kernel
theorem dL_status_5 : decode cL_status 5 = .ok (.ireturn, 1) := by decide +kernel
theorem dL_status_6 : decode cL_status 6 = .ok (.astore_n 2, 1) := by decide +kernel
theorem dL_status_7 : decode cL_status 7 = .ok (.ldc 17, 2) := by decide +kernel
theorem dL_status_9 : decode cL_status 9 = .ok (.ireturn, 1) := by decide +kernel
theorem dL_classOf_0 : decode cL_classOf 0 = .ok (.aload_n 0, 1) := by decide +kernel
theorem dL_classOf_1 : decode cL_classOf 1 = .ok (.iload_n 1, 1) := by decide +kernel
theorem dL_classOf_2 : decode cL_classOf 2 = .ok (.invokevirtual 57, 3) := by decide +kernel
theorem dL_classOf_5 : decode cL_classOf 5 = .ok (.ireturn, 1) := by decide +kernel
theorem dL_classOf_6 : decode cL_classOf 6 = .ok (.astore_n 2, 1) := by decide +kernel
theorem dL_classOf_7 : decode cL_classOf 7 = .ok (.ldc 17, 2) := by decide +kernel
theorem dL_classOf_9 : decode cL_classOf 9 = .ok (.ireturn, 1) := by decide +kernel
theorem dL_watch_0 : decode cL_watch 0 = .ok (.aload_n 0, 1) := by decide +kernel
theorem dL_watch_1 : decode cL_watch 1 = .ok (.iload_n 1, 1) := by decide +kernel
theorem dL_watch_2 : decode cL_watch 2 = .ok (.invokevirtual 60, 3) := by decide +kernel
theorem dL_watch_5 : decode cL_watch 5 = .ok (.ireturn, 1) := by decide +kernel
theorem dL_watch_6 : decode cL_watch 6 = .ok (.astore_n 2, 1) := by decide +kernel
theorem dL_watch_7 : decode cL_watch 7 = .ok (.ldc 17, 2) := by decide +kernel
theorem dL_watch_9 : decode cL_watch 9 = .ok (.ireturn, 1) := by decide +kernel
theorem dL_watch_10 : decode cL_watch 10 = .ok (.astore_n 2, 1) := by decide +kernel
theorem dL_watch_11 : decode cL_watch 11 = .ok (.ldc 20, 2) := by decide +kernel
theorem dL_watch_13 : decode cL_watch 13 = .ok (.ireturn, 1) := by decide +kernel
theorem dL_money_0 : decode cL_money 0 = .ok (.aload_n 0, 1) := by decide +kernel
theorem dL_money_1 : decode cL_money 1 = .ok (.iload_n 1, 1) := by decide +kernel
theorem dL_money_2 : decode cL_money 2 = .ok (.invokevirtual 63, 3) := by decide +kernel
theorem dL_money_5 : decode cL_money 5 = .ok (.ireturn, 1) := by decide +kernel
theorem dL_money_6 : decode cL_money 6 = .ok (.astore_n 2, 1) := by decide +kernel
theorem dL_money_7 : decode cL_money 7 = .ok (.ldc 17, 2) := by decide +kernel
theorem dL_money_9 : decode cL_money 9 = .ok (.ireturn, 1) := by decide +kernel
theorem dL_next_0 : decode cL_next 0 = .ok (.aload_n 0, 1) := by decide +kernel
theorem dL_next_1 : decode cL_next 1 = .ok (.invokevirtual 66, 3) := by decide +kernel
theorem dL_next_4 : decode cL_next 4 = .ok (.ireturn, 1) := by decide +kernel
theorem dL_next_5 : decode cL_next 5 = .ok (.astore_n 1, 1) := by decide +kernel
theorem dL_next_6 : decode cL_next 6 = .ok (.ldc 17, 2) := by decide +kernel
theorem dL_next_8 : decode cL_next 8 = .ok (.ireturn, 1) := by decide +kernel
theorem dL_until_0 : decode cL_until 0 = .ok (.aload_n 0, 1) := by decide +kernel
theorem dL_until_1 : decode cL_until 1 = .ok (.iload_n 1, 1) := by decide +kernel
theorem dL_until_2 : decode cL_until 2 = .ok (.invokevirtual 70, 3) := by decide +kernel
theorem dL_until_5 : decode cL_until 5 = .ok (.ireturn, 1) := by decide +kernel
theorem dL_until_6 : decode cL_until 6 = .ok (.astore_n 2, 1) := by decide +kernel
theorem dL_until_7 : decode cL_until 7 = .ok (.ldc 17, 2) := by decide +kernel
theorem dL_until_9 : decode cL_until 9 = .ok (.ireturn, 1) := by decide +kernel
theorem dL_until_10 : decode cL_until 10 = .ok (.astore_n 2, 1) := by decide +kernel
theorem dL_until_11 : decode cL_until 11 = .ok (.ldc 20, 2) := by decide +kernel
theorem dL_until_13 : decode cL_until 13 = .ok (.ireturn, 1) := by decide +kernel
theorem dL_protest_0 : decode cL_protest 0 = .ok (.aload_n 0, 1) := by decide +kernel
theorem dL_protest_1 : decode cL_protest 1 = .ok (.iload_n 1, 1) := by decide +kernel
theorem dL_protest_2 : decode cL_protest 2 = .ok (.iload_n 2, 1) := by decide +kernel
theorem dL_protest_3 : decode cL_protest 3 = .ok (.invokevirtual 73, 3) := by decide +kernel
theorem dL_protest_6 : decode cL_protest 6 = .ok (.ifCond .eq 7, 3) := by decide +kernel
theorem dL_protest_9 : decode cL_protest 9 = .ok (.iconst 1, 1) := by decide +kernel
theorem dL_protest_10 : decode cL_protest 10 = .ok (.goto 4, 3) := by decide +kernel
theorem dL_protest_13 : decode cL_protest 13 = .ok (.iconst 0, 1) := by decide +kernel
theorem dL_protest_14 : decode cL_protest 14 = .ok (.ireturn, 1) := by decide +kernel
theorem dL_protest_15 : decode cL_protest 15 = .ok (.astore_n 3, 1) := by decide +kernel
theorem dL_protest_16 : decode cL_protest 16 = .ok (.ldc 17, 2) := by decide +kernel
theorem dL_protest_18 : decode cL_protest 18 = .ok (.ireturn, 1) := by decide +kernel
theorem dL_protest_19 : decode cL_protest 19 = .ok (.astore_n 3, 1) := by decide +kernel
theorem dL_protest_20 : decode cL_protest 20 = .ok (.ldc 20, 2) := by decide +kernel
theorem dL_protest_22 : decode cL_protest 22 = .ok (.ireturn, 1) := by decide +kernel
theorem dL_in_0 : decode cL_in 0 = .ok (.aload_n 0, 1) := by decide +kernel
theorem dL_in_1 : decode cL_in 1 = .ok (.iload_n 1, 1) := by decide +kernel
theorem dL_in_2 : decode cL_in 2 = .ok (.invokestatic 77, 3) := by decide +kernel
theorem dL_in_5 : decode cL_in 5 = .ok (.ldc 83, 2) := by decide +kernel
theorem dL_in_7 : decode cL_in 7 = .ok (.iand, 1) := by decide +kernel
theorem dL_in_8 : decode cL_in 8 = .ok (.iload_n 2, 1) := by decide +kernel
theorem dL_in_9 : decode cL_in 9 = .ok (.irem, 1) := by decide +kernel
theorem dL_in_10 : decode cL_in 10 = .ok (.ireturn, 1) := by decide +kernel
theorem dL_law_0 : decode cL_law 0 = .ok (.new 10, 3) := by decide +kernel
theorem dL_law_3 : decode cL_law 3 = .ok (.dup, 1) := by decide +kernel
theorem dL_law_4 : decode cL_law 4 = .ok (.invokespecial 84, 3) := by decide +kernel
theorem dL_law_7 : decode cL_law 7 = .ok (.astore_n 1, 1) := by decide +kernel
theorem dL_law_8 : decode cL_law 8 = .ok (.aload_n 1, 1) := by decide +kernel
theorem dL_law_9 : decode cL_law 9 = .ok (.bipush 6, 2) := by decide +kernel
theorem dL_law_11 : decode cL_law 11 = .ok (.invokestatic 85, 3) := by decide +kernel
theorem dL_law_14 : decode cL_law 14 = .ok (.ldc 17, 2) := by decide +kernel
theorem dL_law_16 : decode cL_law 16 = .ok (.if_icmp .ne 66, 3) := by decide +kernel
theorem dL_law_19 : decode cL_law 19 = .ok (.aload_n 1, 1) := by decide +kernel
theorem dL_law_20 : decode cL_law 20 = .ok (.iconst (-1), 1) := by decide +kernel
theorem dL_law_21 : decode cL_law 21 = .ok (.invokestatic 88, 3) := by decide +kernel
theorem dL_law_24 : decode cL_law 24 = .ok (.ldc 17, 2) := by decide +kernel
theorem dL_law_26 : decode cL_law 26 = .ok (.if_icmp .ne 56, 3) := by decide +kernel
theorem dL_law_29 : decode cL_law 29 = .ok (.aload_n 1, 1) := by decide +kernel
theorem dL_law_30 : decode cL_law 30 = .ok (.iconst 5, 1) := by decide +kernel
theorem dL_law_31 : decode cL_law 31 = .ok (.iconst 1, 1) := by decide +kernel
theorem dL_law_32 : decode cL_law 32 = .ok (.iconst 0, 1) := by decide +kernel
theorem dL_law_33 : decode cL_law 33 = .ok (.iconst 1, 1) := by decide +kernel
theorem dL_law_34 : decode cL_law 34 = .ok (.invokestatic 90, 3) := by decide +kernel
theorem dL_law_37 : decode cL_law 37 = .ok (.ldc 17, 2) := by decide +kernel
theorem dL_law_39 : decode cL_law 39 = .ok (.if_icmp .ne 43, 3) := by decide +kernel
theorem dL_law_42 : decode cL_law 42 = .ok (.aload_n 1, 1) := by decide +kernel
theorem dL_law_43 : decode cL_law 43 = .ok (.iconst 0, 1) := by decide +kernel
theorem dL_law_44 : decode cL_law 44 = .ok (.iconst 0, 1) := by decide +kernel
theorem dL_law_45 : decode cL_law 45 = .ok (.iconst 0, 1) := by decide +kernel
theorem dL_law_46 : decode cL_law 46 = .ok (.iconst 1, 1) := by decide +kernel
theorem dL_law_47 : decode cL_law 47 = .ok (.invokestatic 90, 3) := by decide +kernel
theorem dL_law_50 : decode cL_law 50 = .ok (.ldc 17, 2) := by decide +kernel
theorem dL_law_52 : decode cL_law 52 = .ok (.if_icmp .ne 30, 3) := by decide +kernel
theorem dL_law_55 : decode cL_law 55 = .ok (.aload_n 1, 1) := by decide +kernel
theorem dL_law_56 : decode cL_law 56 = .ok (.iconst 0, 1) := by decide +kernel
theorem dL_law_57 : decode cL_law 57 = .ok (.iconst 1, 1) := by decide +kernel
theorem dL_law_58 : decode cL_law 58 = .ok (.iconst 2, 1) := by decide +kernel
theorem dL_law_59 : decode cL_law 59 = .ok (.iconst 1, 1) := by decide +kernel
theorem dL_law_60 : decode cL_law 60 = .ok (.invokestatic 90, 3) := by decide +kernel
theorem dL_law_63 : decode cL_law 63 = .ok (.ldc 17, 2) := by decide +kernel
theorem dL_law_65 : decode cL_law 65 = .ok (.if_icmp .ne 17, 3) := by decide +kernel
theorem dL_law_68 : decode cL_law 68 = .ok (.aload_n 1, 1) := by decide +kernel
theorem dL_law_69 : decode cL_law 69 = .ok (.iconst 0, 1) := by decide +kernel
theorem dL_law_70 : decode cL_law 70 = .ok (.invokestatic 93, 3) := by decide +kernel
theorem dL_law_73 : decode cL_law 73 = .ok (.ldc 17, 2) := by decide +kernel
theorem dL_law_75 : decode cL_law 75 = .ok (.if_icmp .ne 7, 3) := by decide +kernel
theorem dL_law_78 : decode cL_law 78 = .ok (.iconst 1, 1) := by decide +kernel
theorem dL_law_79 : decode cL_law 79 = .ok (.goto 4, 3) := by decide +kernel
theorem dL_law_82 : decode cL_law 82 = .ok (.iconst 0, 1) := by decide +kernel
theorem dL_law_83 : decode cL_law 83 = .ok (.istore_n 2, 1) := by decide +kernel
theorem dL_law_84 : decode cL_law 84 = .ok (.iconst 1, 1) := by decide +kernel
theorem dL_law_85 : decode cL_law 85 = .ok (.aload_n 0, 1) := by decide +kernel
theorem dL_law_86 : decode cL_law 86 = .ok (.iconst 0, 1) := by decide +kernel
theorem dL_law_87 : decode cL_law 87 = .ok (.iconst 4, 1) := by decide +kernel
theorem dL_law_88 : decode cL_law 88 = .ok (.invokestatic 95, 3) := by decide +kernel
theorem dL_law_91 : decode cL_law 91 = .ok (.iadd, 1) := by decide +kernel
theorem dL_law_92 : decode cL_law 92 = .ok (.istore_n 3, 1) := by decide +kernel
theorem dL_law_93 : decode cL_law 93 = .ok (.iload_n 3, 1) := by decide +kernel
