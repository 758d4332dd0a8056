theorem dX0_init_0 : decode cX0_init 0 = .ok (.aload_n 0, 1) := by decide +kernel
theorem dX0_init_1 : decode cX0_init 1 = .ok (.invokespecial 3, 3) := by decide +kernel
theorem dX0_init_4 : decode cX0_init 4 = .ok (.aload_n 0, 1) := by decide +kernel
theorem dX0_init_5 : decode cX0_init 5 = .ok (.new 9, 3) := by decide +kernel
theorem dX0_init_8 : decode cX0_init 8 = .ok (.dup, 1) := by decide +kernel
theorem dX0_init_9 : decode cX0_init 9 = .ok (.bipush 100, 2) := by decide +kernel
theorem dX0_init_11 : decode cX0_init 11 = .ok (.invokespecial 11, 3) := by decide +kernel
theorem dX0_init_14 : decode cX0_init 14 = .ok (.putfield 14, 3) := by decide +kernel
theorem dX0_init_17 : decode cX0_init 17 = .ok (.aload_n 0, 1) := by decide +kernel
theorem dX0_init_18 : decode cX0_init 18 = .ok (.new 9, 3) := by decide +kernel
theorem dX0_init_21 : decode cX0_init 21 = .ok (.dup, 1) := by decide +kernel
theorem dX0_init_22 : decode cX0_init 22 = .ok (.iconst (-1), 1) := by decide +kernel
theorem dX0_init_23 : decode cX0_init 23 = .ok (.invokespecial 11, 3) := by decide +kernel
theorem dX0_init_26 : decode cX0_init 26 = .ok (.putfield 20, 3) := by decide +kernel
theorem dX0_init_29 : decode cX0_init 29 = .ok (.aload_n 0, 1) := by decide +kernel
theorem dX0_init_30 : decode cX0_init 30 = .ok (.new 9, 3) := by decide +kernel
theorem dX0_init_33 : decode cX0_init 33 = .ok (.dup, 1) := by decide +kernel
theorem dX0_init_34 : decode cX0_init 34 = .ok (.bipush 100, 2) := by decide +kernel
theorem dX0_init_36 : decode cX0_init 36 = .ok (.invokespecial 11, 3) := by decide +kernel
theorem dX0_init_39 : decode cX0_init 39 = .ok (.putfield 23, 3) := by decide +kernel
theorem dX0_init_42 : decode cX0_init 42 = .ok (.aload_n 0, 1) := by decide +kernel
theorem dX0_init_43 : decode cX0_init 43 = .ok (.bipush 45, 2) := by decide +kernel
theorem dX0_init_45 : decode cX0_init 45 = .ok (.putfield 26, 3) := by decide +kernel
theorem dX0_init_48 : decode cX0_init 48 = .ok (.aload_n 0, 1) := by decide +kernel
theorem dX0_init_49 : decode cX0_init 49 = .ok (.iload_n 1, 1) := by decide +kernel
theorem dX0_init_50 : decode cX0_init 50 = .ok (.putfield 30, 3) := by decide +kernel
theorem dX0_init_53 : decode cX0_init 53 = .ok (.aload_n 0, 1) := by decide +kernel
theorem dX0_init_54 : decode cX0_init 54 = .ok (.iload_n 2, 1) := by decide +kernel
theorem dX0_init_55 : decode cX0_init 55 = .ok (.putfield 34, 3) := by decide +kernel
theorem dX0_init_58 : decode cX0_init 58 = .ok (.return_, 1) := by decide +kernel
theorem dX0_shownOf_0 : decode cX0_shownOf 0 = .ok (.aload_n 0, 1) := by decide +kernel
theorem dX0_shownOf_1 : decode cX0_shownOf 1 = .ok (.getfield 20, 3) := by decide +kernel
theorem dX0_shownOf_4 : decode cX0_shownOf 4 = .ok (.iload_n 1, 1) := by decide +kernel
theorem dX0_shownOf_5 : decode cX0_shownOf 5 = .ok (.invokevirtual 37, 3) := by decide +kernel
theorem dX0_shownOf_8 : decode cX0_shownOf 8 = .ok (.istore_n 2, 1) := by decide +kernel
theorem dX0_shownOf_9 : decode cX0_shownOf 9 = .ok (.iload_n 2, 1) := by decide +kernel
theorem dX0_shownOf_10 : decode cX0_shownOf 10 = .ok (.iconst (-1), 1) := by decide +kernel
theorem dX0_shownOf_11 : decode cX0_shownOf 11 = .ok (.if_icmp .ne 14, 3) := by decide +kernel
theorem dX0_shownOf_14 : decode cX0_shownOf 14 = .ok (.aload_n 0, 1) := by decide +kernel
theorem dX0_shownOf_15 : decode cX0_shownOf 15 = .ok (.getfield 14, 3) := by decide +kernel
theorem dX0_shownOf_18 : decode cX0_shownOf 18 = .ok (.iload_n 1, 1) := by decide +kernel
theorem dX0_shownOf_19 : decode cX0_shownOf 19 = .ok (.invokevirtual 37, 3) := by decide +kernel
theorem dX0_shownOf_22 : decode cX0_shownOf 22 = .ok (.goto 4, 3) := by decide +kernel
theorem dX0_shownOf_25 : decode cX0_shownOf 25 = .ok (.iload_n 2, 1) := by decide +kernel
theorem dX0_shownOf_26 : decode cX0_shownOf 26 = .ok (.ireturn, 1) := by decide +kernel
theorem dX0_findWhatIsShown_0 : decode cX0_findWhatIsShown 0 = .ok (.iconst 0, 1) := by decide +kernel
theorem dX0_findWhatIsShown_1 : decode cX0_findWhatIsShown 1 = .ok (.istore_n 1, 1) := by decide +kernel
theorem dX0_findWhatIsShown_2 : decode cX0_findWhatIsShown 2 = .ok (.iload_n 1, 1) := by decide +kernel
theorem dX0_findWhatIsShown_3 : decode cX0_findWhatIsShown 3 = .ok (.iconst 5, 1) := by decide +kernel
theorem dX0_findWhatIsShown_4 : decode cX0_findWhatIsShown 4 = .ok (.if_icmp .ge 22, 3) := by decide +kernel
theorem dX0_findWhatIsShown_7 : decode cX0_findWhatIsShown 7 = .ok (.aload_n 0, 1) := by decide +kernel
theorem dX0_findWhatIsShown_8 : decode cX0_findWhatIsShown 8 = .ok (.getfield 23, 3) := by decide +kernel
theorem dX0_findWhatIsShown_11 : decode cX0_findWhatIsShown 11 = .ok (.iload_n 1, 1) := by decide +kernel
theorem dX0_findWhatIsShown_12 : decode cX0_findWhatIsShown 12 = .ok (.aload_n 0, 1) := by decide +kernel
theorem dX0_findWhatIsShown_13 : decode cX0_findWhatIsShown 13 = .ok (.iload_n 1, 1) := by decide +kernel
theorem dX0_findWhatIsShown_14 : decode cX0_findWhatIsShown 14 = .ok (.invokevirtual 41, 3) := by decide +kernel
theorem dX0_findWhatIsShown_17 : decode cX0_findWhatIsShown 17 = .ok (.invokevirtual 44, 3) := by decide +kernel
theorem dX0_findWhatIsShown_20 : decode cX0_findWhatIsShown 20 = .ok (.iinc 1 1, 3) := by decide +kernel
theorem dX0_findWhatIsShown_23 : decode cX0_findWhatIsShown 23 = .ok (.goto (-21), 3) := by decide +kernel
theorem dX0_findWhatIsShown_26 : decode cX0_findWhatIsShown 26 = .ok (.aload_n 0, 1) := by decide +kernel
theorem dX0_findWhatIsShown_27 : decode cX0_findWhatIsShown 27 = .ok (.iconst 1, 1) := by decide +kernel
theorem dX0_findWhatIsShown_28 : decode cX0_findWhatIsShown 28 = .ok (.putfield 48, 3) := by decide +kernel
theorem dX0_findWhatIsShown_31 : decode cX0_findWhatIsShown 31 = .ok (.return_, 1) := by decide +kernel
theorem dX0_findWhatIs_0 : decode cX0_findWhatIs 0 = .ok (.iconst 0, 1) := by decide +kernel
theorem dX0_findWhatIs_1 : decode cX0_findWhatIs 1 = .ok (.istore_n 1, 1) := by decide +kernel
theorem dX0_findWhatIs_2 : decode cX0_findWhatIs 2 = .ok (.iload_n 1, 1) := by decide +kernel
theorem dX0_findWhatIs_3 : decode cX0_findWhatIs 3 = .ok (.iconst 5, 1) := by decide +kernel
theorem dX0_findWhatIs_4 : decode cX0_findWhatIs 4 = .ok (.if_icmp .ge 25, 3) := by decide +kernel
theorem dX0_findWhatIs_7 : decode cX0_findWhatIs 7 = .ok (.aload_n 0, 1) := by decide +kernel
theorem dX0_findWhatIs_8 : decode cX0_findWhatIs 8 = .ok (.getfield 23, 3) := by decide +kernel
theorem dX0_findWhatIs_11 : decode cX0_findWhatIs 11 = .ok (.iload_n 1, 1) := by decide +kernel
theorem dX0_findWhatIs_12 : decode cX0_findWhatIs 12 = .ok (.aload_n 0, 1) := by decide +kernel
theorem dX0_findWhatIs_13 : decode cX0_findWhatIs 13 = .ok (.getfield 14, 3) := by decide +kernel
theorem dX0_findWhatIs_16 : decode cX0_findWhatIs 16 = .ok (.iload_n 1, 1) := by decide +kernel
theorem dX0_findWhatIs_17 : decode cX0_findWhatIs 17 = .ok (.invokevirtual 37, 3) := by decide +kernel
theorem dX0_findWhatIs_20 : decode cX0_findWhatIs 20 = .ok (.invokevirtual 44, 3) := by decide +kernel
theorem dX0_findWhatIs_23 : decode cX0_findWhatIs 23 = .ok (.iinc 1 1, 3) := by decide +kernel
theorem dX0_findWhatIs_26 : decode cX0_findWhatIs 26 = .ok (.goto (-24), 3) := by decide +kernel
theorem dX0_findWhatIs_29 : decode cX0_findWhatIs 29 = .ok (.aload_n 0, 1) := by decide +kernel
theorem dX0_findWhatIs_30 : decode cX0_findWhatIs 30 = .ok (.iconst 1, 1) := by decide +kernel
theorem dX0_findWhatIs_31 : decode cX0_findWhatIs 31 = .ok (.putfield 48, 3) := by decide +kernel
theorem dX0_findWhatIs_34 : decode cX0_findWhatIs 34 = .ok (.return_, 1) := by decide +kernel
theorem dX0_mayCompete_0 : decode cX0_mayCompete 0 = .ok (.aload_n 0, 1) := by decide +kernel
theorem dX0_mayCompete_1 : decode cX0_mayCompete 1 = .ok (.getfield 26, 3) := by decide +kernel
theorem dX0_mayCompete_4 : decode cX0_mayCompete 4 = .ok (.bipush 110, 2) := by decide +kernel
theorem dX0_mayCompete_6 : decode cX0_mayCompete 6 = .ok (.if_icmp .eq 21, 3) := by decide +kernel
theorem dX0_mayCompete_9 : decode cX0_mayCompete 9 = .ok (.aload_n 0, 1) := by decide +kernel
theorem dX0_mayCompete_10 : decode cX0_mayCompete 10 = .ok (.getfield 26, 3) := by decide +kernel
theorem dX0_mayCompete_13 : decode cX0_mayCompete 13 = .ok (.bipush 99, 2) := by decide +kernel
theorem dX0_mayCompete_15 : decode cX0_mayCompete 15 = .ok (.if_icmp .eq 12, 3) := by decide +kernel
theorem dX0_mayCompete_18 : decode cX0_mayCompete 18 = .ok (.aload_n 0, 1) := by decide +kernel
theorem dX0_mayCompete_19 : decode cX0_mayCompete 19 = .ok (.getfield 26, 3) := by decide +kernel
theorem dX0_mayCompete_22 : decode cX0_mayCompete 22 = .ok (.bipush 114, 2) := by decide +kernel
theorem dX0_mayCompete_24 : decode cX0_mayCompete 24 = .ok (.if_icmp .ne 7, 3) := by decide +kernel
theorem dX0_mayCompete_27 : decode cX0_mayCompete 27 = .ok (.iconst 1, 1) := by decide +kernel
theorem dX0_mayCompete_28 : decode cX0_mayCompete 28 = .ok (.goto 4, 3) := by decide +kernel
theorem dX0_mayCompete_31 : decode cX0_mayCompete 31 = .ok (.iconst 0, 1) := by decide +kernel
theorem dX0_mayCompete_32 : decode cX0_mayCompete 32 = .ok (.ireturn, 1) := by decide +kernel
theorem dX0_waits_0 : decode cX0_waits 0 = .ok (.aload_n 0, 1) := by decide +kernel
theorem dX0_waits_1 : decode cX0_waits 1 = .ok (.getfield 26, 3) := by decide +kernel
theorem dX0_waits_4 : decode cX0_waits 4 = .ok (.bipush 120, 2) := by decide +kernel
theorem dX0_waits_6 : decode cX0_waits 6 = .ok (.if_icmp .eq 12, 3) := by decide +kernel
theorem dX0_waits_9 : decode cX0_waits 9 = .ok (.aload_n 0, 1) := by decide +kernel
theorem dX0_waits_10 : decode cX0_waits 10 = .ok (.getfield 26, 3) := by decide +kernel
theorem dX0_waits_13 : decode cX0_waits 13 = .ok (.bipush 114, 2) := by decide +kernel
theorem dX0_waits_15 : decode cX0_waits 15 = .ok (.if_icmp .ne 7, 3) := by decide +kernel
theorem dX0_waits_18 : decode cX0_waits 18 = .ok (.iconst 1, 1) := by decide +kernel
theorem dX0_waits_19 : decode cX0_waits 19 = .ok (.goto 4, 3) := by decide +kernel
theorem dX0_waits_22 : decode cX0_waits 22 = .ok (.iconst 0, 1) := by decide +kernel
theorem dX0_waits_23 : decode cX0_waits 23 = .ok (.ireturn, 1) := by decide +kernel
theorem dX0_isInOrder_0 : decode cX0_isInOrder 0 = .ok (.aload_n 0, 1) := by decide +kernel
theorem dX0_isInOrder_1 : decode cX0_isInOrder 1 = .ok (.getfield 26, 3) := by decide +kernel
theorem dX0_isInOrder_4 : decode cX0_isInOrder 4 = .ok (.bipush 99, 2) := by decide +kernel
theorem dX0_isInOrder_6 : decode cX0_isInOrder 6 = .ok (.if_icmp .ne 26, 3) := by decide +kernel
theorem dX0_isInOrder_9 : decode cX0_isInOrder 9 = .ok (.aload_n 0, 1) := by decide +kernel
theorem dX0_isInOrder_10 : decode cX0_isInOrder 10 = .ok (.getfield 52, 3) := by decide +kernel
theorem dX0_isInOrder_13 : decode cX0_isInOrder 13 = .ok (.ifnull 17, 3) := by decide +kernel
theorem dX0_isInOrder_16 : decode cX0_isInOrder 16 = .ok (.aload_n 0, 1) := by decide +kernel
theorem dX0_isInOrder_17 : decode cX0_isInOrder 17 = .ok (.getfield 52, 3) := by decide +kernel
theorem dX0_isInOrder_20 : decode cX0_isInOrder 20 = .ok (.aload_n 0, 1) := by decide +kernel
theorem dX0_isInOrder_21 : decode cX0_isInOrder 21 = .ok (.getfield 23, 3) := by decide +kernel
theorem dX0_isInOrder_24 : decode cX0_isInOrder 24 = .ok (.invokevirtual 59, 3) := by decide +kernel
theorem dX0_isInOrder_27 : decode cX0_isInOrder 27 = .ok (.ifCond .ne 5, 3) := by decide +kernel
theorem dX0_isInOrder_30 : decode cX0_isInOrder 30 = .ok (.iconst 0, 1) := by decide +kernel
theorem dX0_isInOrder_31 : decode cX0_isInOrder 31 = .ok (.ireturn, 1) := by decide +kernel
theorem dX0_isInOrder_32 : decode cX0_isInOrder 32 = .ok (.aload_n 0, 1) := by decide +kernel
theorem dX0_isInOrder_33 : decode cX0_isInOrder 33 = .ok (.getfield 63, 3) := by decide +kernel
theorem dX0_isInOrder_36 : decode cX0_isInOrder 36 = .ok (.ifCond .eq 21, 3) := by decide +kernel
theorem dX0_isInOrder_39 : decode cX0_isInOrder 39 = .ok (.aload_n 0, 1) := by decide +kernel
theorem dX0_isInOrder_40 : decode cX0_isInOrder 40 = .ok (.getfield 26, 3) := by decide +kernel
theorem dX0_isInOrder_43 : decode cX0_isInOrder 43 = .ok (.bipush 120, 2) := by decide +kernel
theorem dX0_isInOrder_45 : decode cX0_isInOrder 45 = .ok (.if_icmp .eq 10, 3) := by decide +kernel
theorem dX0_isInOrder_48 : decode cX0_isInOrder 48 = .ok (.aload_n 0, 1) := by decide +kernel
theorem dX0_isInOrder_49 : decode cX0_isInOrder 49 = .ok (.getfield 52, 3) := by decide +kernel
theorem dX0_isInOrder_52 : decode cX0_isInOrder 52 = .ok (.ifnonnull 5, 3) := by decide +kernel
theorem dX0_isInOrder_55 : decode cX0_isInOrder 55 = .ok (.iconst 0, 1) := by decide +kernel
theorem dX0_isInOrder_56 : decode cX0_isInOrder 56 = .ok (.ireturn, 1) := by decide +kernel
theorem dX0_isInOrder_57 : decode cX0_isInOrder 57 = .ok (.aload_n 0, 1) := by decide +kernel
theorem dX0_isInOrder_58 : decode cX0_isInOrder 58 = .ok (.getfield 52, 3) := by decide +kernel
theorem dX0_isInOrder_61 : decode cX0_isInOrder 61 = .ok (.ifnull 10, 3) := by decide +kernel
theorem dX0_isInOrder_64 : decode cX0_isInOrder 64 = .ok (.aload_n 0, 1) := by decide +kernel
theorem dX0_isInOrder_65 : decode cX0_isInOrder 65 = .ok (.invokevirtual 66, 3) := by decide +kernel
theorem dX0_isInOrder_68 : decode cX0_isInOrder 68 = .ok (.ifCond .eq 7, 3) := by decide +kernel
theorem dX0_isInOrder_71 : decode cX0_isInOrder 71 = .ok (.iconst 1, 1) := by decide +kernel
theorem dX0_isInOrder_72 : decode cX0_isInOrder 72 = .ok (.goto 4, 3) := by decide +kernel
theorem dX0_isInOrder_75 : decode cX0_isInOrder 75 = .ok (.iconst 0, 1) := by decide +kernel
theorem dX0_isInOrder_76 : decode cX0_isInOrder 76 = .ok (.ireturn, 1) := by decide +kernel
theorem dX1_init_0 : decode cX1_init 0 = .ok (.aload_n 0, 1) := by decide +kernel
theorem dX1_init_1 : decode cX1_init 1 = .ok (.invokespecial 1, 3) := by decide +kernel
theorem dX1_init_4 : decode cX1_init 4 = .ok (.aload_n 0, 1) := by decide +kernel
theorem dX1_init_5 : decode cX1_init 5 = .ok (.iload_n 1, 1) := by decide +kernel
theorem dX1_init_6 : decode cX1_init 6 = .ok (.putfield 7, 3) := by decide +kernel
theorem dX1_init_9 : decode cX1_init 9 = .ok (.return_, 1) := by decide +kernel
theorem dX2_hasTime_0 : decode cX2_hasTime 0 = .ok (.aload_n 0, 1) := by decide +kernel
theorem dX2_hasTime_1 : decode cX2_hasTime 1 = .ok (.getfield 9, 3) := by decide +kernel
theorem dX2_hasTime_4 : decode cX2_hasTime 4 = .ok (.iconst (-1), 1) := by decide +kernel
theorem dX2_hasTime_5 : decode cX2_hasTime 5 = .ok (.if_icmp .eq 7, 3) := by decide +kernel
theorem dX2_hasTime_8 : decode cX2_hasTime 8 = .ok (.iconst 1, 1) := by decide +kernel
theorem dX2_hasTime_9 : decode cX2_hasTime 9 = .ok (.goto 4, 3) := by decide +kernel
theorem dX2_hasTime_12 : decode cX2_hasTime 12 = .ok (.iconst 0, 1) := by decide +kernel
theorem dX2_hasTime_13 : decode cX2_hasTime 13 = .ok (.ireturn, 1) := by decide +kernel
theorem dX2_fall_0 : decode cX2_fall 0 = .ok (.aload_n 0, 1) := by decide +kernel
theorem dX2_fall_1 : decode cX2_fall 1 = .ok (.iconst 1, 1) := by decide +kernel
theorem dX2_fall_2 : decode cX2_fall 2 = .ok (.putfield 23, 3) := by decide +kernel
theorem dX2_fall_5 : decode cX2_fall 5 = .ok (.aload_n 0, 1) := by decide +kernel
theorem dX2_fall_6 : decode cX2_fall 6 = .ok (.iconst (-1), 1) := by decide +kernel
theorem dX2_fall_7 : decode cX2_fall 7 = .ok (.putfield 9, 3) := by decide +kernel
theorem dX2_fall_10 : decode cX2_fall 10 = .ok (.return_, 1) := by decide +kernel
theorem dX3_entryOf_0 : decode cX3_entryOf 0 = .ok (.aload_n 1, 1) := by decide +kernel
theorem dX3_entryOf_1 : decode cX3_entryOf 1 = .ok (.getfield 29, 3) := by decide +kernel
theorem dX3_entryOf_4 : decode cX3_entryOf 4 = .ok (.istore_n 2, 1) := by decide +kernel
theorem dX3_entryOf_5 : decode cX3_entryOf 5 = .ok (.iload_n 2, 1) := by decide +kernel
theorem dX3_entryOf_6 : decode cX3_entryOf 6 = .ok (.ifCond .lt 21, 3) := by decide +kernel
theorem dX3_entryOf_9 : decode cX3_entryOf 9 = .ok (.iload_n 2, 1) := by decide +kernel
theorem dX3_entryOf_10 : decode cX3_entryOf 10 = .ok (.aload_n 0, 1) := by decide +kernel
theorem dX3_entryOf_11 : decode cX3_entryOf 11 = .ok (.getfield 17, 3) := by decide +kernel
theorem dX3_entryOf_14 : decode cX3_entryOf 14 = .ok (.arraylength, 1) := by decide +kernel
theorem dX3_entryOf_15 : decode cX3_entryOf 15 = .ok (.if_icmp .ge 12, 3) := by decide +kernel
theorem dX3_entryOf_18 : decode cX3_entryOf 18 = .ok (.aload_n 0, 1) := by decide +kernel
theorem dX3_entryOf_19 : decode cX3_entryOf 19 = .ok (.getfield 17, 3) := by decide +kernel
theorem dX3_entryOf_22 : decode cX3_entryOf 22 = .ok (.iload_n 2, 1) := by decide +kernel
theorem dX3_entryOf_23 : decode cX3_entryOf 23 = .ok (.aaload, 1) := by decide +kernel
theorem dX3_entryOf_24 : decode cX3_entryOf 24 = .ok (.goto 4, 3) := by decide +kernel
theorem dX3_entryOf_27 : decode cX3_entryOf 27 = .ok (.aconst_null, 1) := by decide +kernel
theorem dX3_entryOf_28 : decode cX3_entryOf 28 = .ok (.areturn, 1) := by decide +kernel
theorem dX3_isInOrder_0 : decode cX3_isInOrder 0 = .ok (.iconst 0, 1) := by decide +kernel
theorem dX3_isInOrder_1 : decode cX3_isInOrder 1 = .ok (.istore_n 1, 1) := by decide +kernel
theorem dX3_isInOrder_2 : decode cX3_isInOrder 2 = .ok (.iload_n 1, 1) := by decide +kernel
theorem dX3_isInOrder_3 : decode cX3_isInOrder 3 = .ok (.aload_n 0, 1) := by decide +kernel
theorem dX3_isInOrder_4 : decode cX3_isInOrder 4 = .ok (.getfield 17, 3) := by decide +kernel
theorem dX3_isInOrder_7 : decode cX3_isInOrder 7 = .ok (.arraylength, 1) := by decide +kernel
theorem dX3_isInOrder_8 : decode cX3_isInOrder 8 = .ok (.if_icmp .ge 50, 3) := by decide +kernel
theorem dX3_isInOrder_11 : decode cX3_isInOrder 11 = .ok (.aload_n 0, 1) := by decide +kernel
theorem dX3_isInOrder_12 : decode cX3_isInOrder 12 = .ok (.getfield 17, 3) := by decide +kernel
theorem dX3_isInOrder_15 : decode cX3_isInOrder 15 = .ok (.iload_n 1, 1) := by decide +kernel
theorem dX3_isInOrder_16 : decode cX3_isInOrder 16 = .ok (.aaload, 1) := by decide +kernel
theorem dX3_isInOrder_17 : decode cX3_isInOrder 17 = .ok (.astore_n 2, 1) := by decide +kernel
theorem dX3_isInOrder_18 : decode cX3_isInOrder 18 = .ok (.aload_n 0, 1) := by decide +kernel
theorem dX3_isInOrder_19 : decode cX3_isInOrder 19 = .ok (.getfield 72, 3) := by decide +kernel
theorem dX3_isInOrder_22 : decode cX3_isInOrder 22 = .ok (.ifCond .ne 30, 3) := by decide +kernel
theorem dX3_isInOrder_25 : decode cX3_isInOrder 25 = .ok (.aload_n 2, 1) := by decide +kernel
theorem dX3_isInOrder_26 : decode cX3_isInOrder 26 = .ok (.ifnull 26, 3) := by decide +kernel
theorem dX3_isInOrder_29 : decode cX3_isInOrder 29 = .ok (.aload_n 2, 1) := by decide +kernel
theorem dX3_isInOrder_30 : decode cX3_isInOrder 30 = .ok (.getfield 38, 3) := by decide +kernel
theorem dX3_isInOrder_33 : decode cX3_isInOrder 33 = .ok (.ifCond .ne 19, 3) := by decide +kernel
theorem dX3_isInOrder_36 : decode cX3_isInOrder 36 = .ok (.aload_n 2, 1) := by decide +kernel
theorem dX3_isInOrder_37 : decode cX3_isInOrder 37 = .ok (.getfield 34, 3) := by decide +kernel
theorem dX3_isInOrder_40 : decode cX3_isInOrder 40 = .ok (.getfield 75, 3) := by decide +kernel
theorem dX3_isInOrder_43 : decode cX3_isInOrder 43 = .ok (.aload_n 2, 1) := by decide +kernel
theorem dX3_isInOrder_44 : decode cX3_isInOrder 44 = .ok (.getfield 79, 3) := by decide +kernel
theorem dX3_isInOrder_47 : decode cX3_isInOrder 47 = .ok (.if_acmp .eq 5, 3) := by decide +kernel
theorem dX3_isInOrder_50 : decode cX3_isInOrder 50 = .ok (.iconst 0, 1) := by decide +kernel
theorem dX3_isInOrder_51 : decode cX3_isInOrder 51 = .ok (.ireturn, 1) := by decide +kernel
theorem dX3_isInOrder_52 : decode cX3_isInOrder 52 = .ok (.iinc 1 1, 3) := by decide +kernel
theorem dX3_isInOrder_55 : decode cX3_isInOrder 55 = .ok (.goto (-53), 3) := by decide +kernel
theorem dX3_isInOrder_58 : decode cX3_isInOrder 58 = .ok (.iconst 1, 1) := by decide +kernel
theorem dX3_isInOrder_59 : decode cX3_isInOrder 59 = .ok (.ireturn, 1) := by decide +kernel
theorem dX4_init_0 : decode cX4_init 0 = .ok (.aload_n 0, 1) := by decide +kernel
theorem dX4_init_1 : decode cX4_init 1 = .ok (.invokespecial 3, 3) := by decide +kernel
theorem dX4_init_4 : decode cX4_init 4 = .ok (.aload_n 0, 1) := by decide +kernel
theorem dX4_init_5 : decode cX4_init 5 = .ok (.iconst (-1), 1) := by decide +kernel
theorem dX4_init_6 : decode cX4_init 6 = .ok (.putfield 9, 3) := by decide +kernel
theorem dX4_init_9 : decode cX4_init 9 = .ok (.aload_n 0, 1) := by decide +kernel
theorem dX4_init_10 : decode cX4_init 10 = .ok (.iload_n 1, 1) := by decide +kernel
theorem dX4_init_11 : decode cX4_init 11 = .ok (.putfield 15, 3) := by decide +kernel
theorem dX4_init_14 : decode cX4_init 14 = .ok (.aload_n 0, 1) := by decide +kernel
theorem dX4_init_15 : decode cX4_init 15 = .ok (.iload_n 2, 1) := by decide +kernel
theorem dX4_init_16 : decode cX4_init 16 = .ok (.putfield 18, 3) := by decide +kernel
theorem dX4_init_19 : decode cX4_init 19 = .ok (.aload_n 0, 1) := by decide +kernel
theorem dX4_init_20 : decode cX4_init 20 = .ok (.iload_n 3, 1) := by decide +kernel
theorem dX4_init_21 : decode cX4_init 21 = .ok (.putfield 21, 3) := by decide +kernel
theorem dX4_init_24 : decode cX4_init 24 = .ok (.return_, 1) := by decide +kernel
theorem dX4_drawBounds_0 : decode cX4_drawBounds 0 = .ok (.aload_n 0, 1) := by decide +kernel
theorem dX4_drawBounds_1 : decode cX4_drawBounds 1 = .ok (.iload_n 1, 1) := by decide +kernel
theorem dX4_drawBounds_2 : decode cX4_drawBounds 2 = .ok (.putfield 24, 3) := by decide +kernel
theorem dX4_drawBounds_5 : decode cX4_drawBounds 5 = .ok (.aload_n 0, 1) := by decide +kernel
theorem dX4_drawBounds_6 : decode cX4_drawBounds 6 = .ok (.iload_n 2, 1) := by decide +kernel
theorem dX4_drawBounds_7 : decode cX4_drawBounds 7 = .ok (.putfield 27, 3) := by decide +kernel
theorem dX4_drawBounds_10 : decode cX4_drawBounds 10 = .ok (.aload_n 0, 1) := by decide +kernel
theorem dX4_drawBounds_11 : decode cX4_drawBounds 11 = .ok (.iconst (-1), 1) := by decide +kernel
theorem dX4_drawBounds_12 : decode cX4_drawBounds 12 = .ok (.putfield 9, 3) := by decide +kernel
theorem dX4_drawBounds_15 : decode cX4_drawBounds 15 = .ok (.return_, 1) := by decide +kernel
theorem dX4_holds_0 : decode cX4_holds 0 = .ok (.aload_n 1, 1) := by decide +kernel
theorem dX4_holds_1 : decode cX4_holds 1 = .ok (.invokevirtual 30, 3) := by decide +kernel
theorem dX4_holds_4 : decode cX4_holds 4 = .ok (.istore_n 2, 1) := by decide +kernel
theorem dX4_holds_5 : decode cX4_holds 5 = .ok (.aload_n 1, 1) := by decide +kernel
theorem dX4_holds_6 : decode cX4_holds 6 = .ok (.aload_n 0, 1) := by decide +kernel
theorem dX4_holds_7 : decode cX4_holds 7 = .ok (.getfield 18, 3) := by decide +kernel
theorem dX4_holds_10 : decode cX4_holds 10 = .ok (.invokevirtual 36, 3) := by decide +kernel
theorem dX4_holds_13 : decode cX4_holds 13 = .ok (.aload_n 0, 1) := by decide +kernel
theorem dX4_holds_14 : decode cX4_holds 14 = .ok (.getfield 21, 3) := by decide +kernel
theorem dX4_holds_17 : decode cX4_holds 17 = .ok (.if_icmp .lt 23, 3) := by decide +kernel
theorem dX4_holds_20 : decode cX4_holds 20 = .ok (.iload_n 2, 1) := by decide +kernel
theorem dX4_holds_21 : decode cX4_holds 21 = .ok (.aload_n 0, 1) := by decide +kernel
theorem dX4_holds_22 : decode cX4_holds 22 = .ok (.getfield 24, 3) := by decide +kernel
theorem dX4_holds_25 : decode cX4_holds 25 = .ok (.if_icmp .lt 15, 3) := by decide +kernel
theorem dX4_holds_28 : decode cX4_holds 28 = .ok (.iload_n 2, 1) := by decide +kernel
theorem dX4_holds_29 : decode cX4_holds 29 = .ok (.aload_n 0, 1) := by decide +kernel
theorem dX4_holds_30 : decode cX4_holds 30 = .ok (.getfield 27, 3) := by decide +kernel
theorem dX4_holds_33 : decode cX4_holds 33 = .ok (.if_icmp .gt 7, 3) := by decide +kernel
theorem dX4_holds_36 : decode cX4_holds 36 = .ok (.iconst 1, 1) := by decide +kernel
theorem dX4_holds_37 : decode cX4_holds 37 = .ok (.goto 4, 3) := by decide +kernel
theorem dX4_holds_40 : decode cX4_holds 40 = .ok (.iconst 0, 1) := by decide +kernel
theorem dX4_holds_41 : decode cX4_holds 41 = .ok (.ireturn, 1) := by decide +kernel
theorem dX5_init_0 : decode cX5_init 0 = .ok (.aload_n 0, 1) := by decide +kernel
theorem dX5_init_1 : decode cX5_init 1 = .ok (.invokespecial 3, 3) := by decide +kernel
theorem dX5_init_4 : decode cX5_init 4 = .ok (.aload_n 0, 1) := by decide +kernel
theorem dX5_init_5 : decode cX5_init 5 = .ok (.iconst 5, 1) := by decide +kernel
theorem dX5_init_6 : decode cX5_init 6 = .ok (.newarray .int, 2) := by decide +kernel
theorem dX5_init_8 : decode cX5_init 8 = .ok (.putfield 9, 3) := by decide +kernel
theorem dX5_init_11 : decode cX5_init 11 = .ok (.iconst 0, 1) := by decide +kernel
theorem dX5_init_12 : decode cX5_init 12 = .ok (.istore_n 2, 1) := by decide +kernel
theorem dX5_init_13 : decode cX5_init 13 = .ok (.iload_n 2, 1) := by decide +kernel
theorem dX5_init_14 : decode cX5_init 14 = .ok (.aload_n 0, 1) := by decide +kernel
theorem dX5_init_15 : decode cX5_init 15 = .ok (.getfield 9, 3) := by decide +kernel
theorem dX5_init_18 : decode cX5_init 18 = .ok (.arraylength, 1) := by decide +kernel
theorem dX5_init_19 : decode cX5_init 19 = .ok (.if_icmp .ge 16, 3) := by decide +kernel
theorem dX5_init_22 : decode cX5_init 22 = .ok (.aload_n 0, 1) := by decide +kernel
theorem dX5_init_23 : decode cX5_init 23 = .ok (.getfield 9, 3) := by decide +kernel
theorem dX5_init_26 : decode cX5_init 26 = .ok (.iload_n 2, 1) := by decide +kernel
theorem dX5_init_27 : decode cX5_init 27 = .ok (.iload_n 1, 1) := by decide +kernel
theorem dX5_init_28 : decode cX5_init 28 = .ok (.iastore, 1) := by decide +kernel
theorem dX5_init_29 : decode cX5_init 29 = .ok (.iinc 2 1, 3) := by decide +kernel
theorem dX5_init_32 : decode cX5_init 32 = .ok (.goto (-19), 3) := by decide +kernel
theorem dX5_init_35 : decode cX5_init 35 = .ok (.return_, 1) := by decide +kernel
theorem dX5_of_0 : decode cX5_of 0 = .ok (.iload_n 1, 1) := by decide +kernel
theorem dX5_of_1 : decode cX5_of 1 = .ok (.ifCond .lt 21, 3) := by decide +kernel
theorem dX5_of_4 : decode cX5_of 4 = .ok (.iload_n 1, 1) := by decide +kernel
theorem dX5_of_5 : decode cX5_of 5 = .ok (.aload_n 0, 1) := by decide +kernel
theorem dX5_of_6 : decode cX5_of 6 = .ok (.getfield 9, 3) := by decide +kernel
theorem dX5_of_9 : decode cX5_of 9 = .ok (.arraylength, 1) := by decide +kernel
theorem dX5_of_10 : decode cX5_of 10 = .ok (.if_icmp .ge 12, 3) := by decide +kernel
theorem dX5_of_13 : decode cX5_of 13 = .ok (.aload_n 0, 1) := by decide +kernel
theorem dX5_of_14 : decode cX5_of 14 = .ok (.getfield 9, 3) := by decide +kernel
theorem dX5_of_17 : decode cX5_of 17 = .ok (.iload_n 1, 1) := by decide +kernel
theorem dX5_of_18 : decode cX5_of 18 = .ok (.iaload, 1) := by decide +kernel
theorem dX5_of_19 : decode cX5_of 19 = .ok (.goto 5, 3) := by decide +kernel
theorem dX5_of_22 : decode cX5_of 22 = .ok (.bipush 100, 2) := by decide +kernel
theorem dX5_of_24 : decode cX5_of 24 = .ok (.ireturn, 1) := by decide +kernel
theorem dX5_tell_0 : decode cX5_tell 0 = .ok (.iload_n 1, 1) := by decide +kernel
theorem dX5_tell_1 : decode cX5_tell 1 = .ok (.ifCond .lt 19, 3) := by decide +kernel
theorem dX5_tell_4 : decode cX5_tell 4 = .ok (.iload_n 1, 1) := by decide +kernel
theorem dX5_tell_5 : decode cX5_tell 5 = .ok (.aload_n 0, 1) := by decide +kernel
theorem dX5_tell_6 : decode cX5_tell 6 = .ok (.getfield 9, 3) := by decide +kernel
theorem dX5_tell_9 : decode cX5_tell 9 = .ok (.arraylength, 1) := by decide +kernel
theorem dX5_tell_10 : decode cX5_tell 10 = .ok (.if_icmp .ge 10, 3) := by decide +kernel
theorem dX5_tell_13 : decode cX5_tell 13 = .ok (.aload_n 0, 1) := by decide +kernel
theorem dX5_tell_14 : decode cX5_tell 14 = .ok (.getfield 9, 3) := by decide +kernel
theorem dX5_tell_17 : decode cX5_tell 17 = .ok (.iload_n 1, 1) := by decide +kernel
theorem dX5_tell_18 : decode cX5_tell 18 = .ok (.iload_n 2, 1) := by decide +kernel
theorem dX5_tell_19 : decode cX5_tell 19 = .ok (.iastore, 1) := by decide +kernel
theorem dX5_tell_20 : decode cX5_tell 20 = .ok (.return_, 1) := by decide +kernel
theorem dX5_lackOf_0 : decode cX5_lackOf 0 = .ok (.bipush 100, 2) := by decide +kernel
theorem dX5_lackOf_2 : decode cX5_lackOf 2 = .ok (.aload_n 0, 1) := by decide +kernel
theorem dX5_lackOf_3 : decode cX5_lackOf 3 = .ok (.iload_n 1, 1) := by decide +kernel
theorem dX5_lackOf_4 : decode cX5_lackOf 4 = .ok (.invokevirtual 15, 3) := by decide +kernel
theorem dX5_lackOf_7 : decode cX5_lackOf 7 = .ok (.isub, 1) := by decide +kernel
theorem dX5_lackOf_8 : decode cX5_lackOf 8 = .ok (.ireturn, 1) := by decide +kernel
theorem dX5_sumOfLacks_0 : decode cX5_sumOfLacks 0 = .ok (.iconst 0, 1) := by decide +kernel
theorem dX5_sumOfLacks_1 : decode cX5_sumOfLacks 1 = .ok (.istore_n 1, 1) := by decide +kernel
theorem dX5_sumOfLacks_2 : decode cX5_sumOfLacks 2 = .ok (.iconst 0, 1) := by decide +kernel
theorem dX5_sumOfLacks_3 : decode cX5_sumOfLacks 3 = .ok (.istore_n 2, 1) := by decide +kernel
theorem dX5_sumOfLacks_4 : decode cX5_sumOfLacks 4 = .ok (.iload_n 2, 1) := by decide +kernel
theorem dX5_sumOfLacks_5 : decode cX5_sumOfLacks 5 = .ok (.aload_n 0, 1) := by decide +kernel
theorem dX5_sumOfLacks_6 : decode cX5_sumOfLacks 6 = .ok (.getfield 9, 3) := by decide +kernel
theorem dX5_sumOfLacks_9 : decode cX5_sumOfLacks 9 = .ok (.arraylength, 1) := by decide +kernel
theorem dX5_sumOfLacks_10 : decode cX5_sumOfLacks 10 = .ok (.if_icmp .ge 21, 3) := by decide +kernel
theorem dX5_sumOfLacks_13 : decode cX5_sumOfLacks 13 = .ok (.iload_n 1, 1) := by decide +kernel
theorem dX5_sumOfLacks_14 : decode cX5_sumOfLacks 14 = .ok (.bipush 100, 2) := by decide +kernel
theorem dX5_sumOfLacks_16 : decode cX5_sumOfLacks 16 = .ok (.aload_n 0, 1) := by decide +kernel
theorem dX5_sumOfLacks_17 : decode cX5_sumOfLacks 17 = .ok (.getfield 9, 3) := by decide +kernel
theorem dX5_sumOfLacks_20 : decode cX5_sumOfLacks 20 = .ok (.iload_n 2, 1) := by decide +kernel
theorem dX5_sumOfLacks_21 : decode cX5_sumOfLacks 21 = .ok (.iaload, 1) := by decide +kernel
theorem dX5_sumOfLacks_22 : decode cX5_sumOfLacks 22 = .ok (.isub, 1) := by decide +kernel
theorem dX5_sumOfLacks_23 : decode cX5_sumOfLacks 23 = .ok (.iadd, 1) := by decide +kernel
theorem dX5_sumOfLacks_24 : decode cX5_sumOfLacks 24 = .ok (.istore_n 1, 1) := by decide +kernel
theorem dX5_sumOfLacks_25 : decode cX5_sumOfLacks 25 = .ok (.iinc 2 1, 3) := by decide +kernel
theorem dX5_sumOfLacks_28 : decode cX5_sumOfLacks 28 = .ok (.goto (-24), 3) := by decide +kernel
theorem dX5_sumOfLacks_31 : decode cX5_sumOfLacks 31 = .ok (.iload_n 1, 1) := by decide +kernel
theorem dX5_sumOfLacks_32 : decode cX5_sumOfLacks 32 = .ok (.ireturn, 1) := by decide +kernel
theorem dX5_isFarAbove_0 : decode cX5_isFarAbove 0 = .ok (.iconst 0, 1) := by decide +kernel
theorem dX5_isFarAbove_1 : decode cX5_isFarAbove 1 = .ok (.istore_n 2, 1) := by decide +kernel
theorem dX5_isFarAbove_2 : decode cX5_isFarAbove 2 = .ok (.iload_n 2, 1) := by decide +kernel
theorem dX5_isFarAbove_3 : decode cX5_isFarAbove 3 = .ok (.iconst 5, 1) := by decide +kernel
theorem dX5_isFarAbove_4 : decode cX5_isFarAbove 4 = .ok (.if_icmp .ge 27, 3) := by decide +kernel
theorem dX5_isFarAbove_7 : decode cX5_isFarAbove 7 = .ok (.aload_n 0, 1) := by decide +kernel
theorem dX5_isFarAbove_8 : decode cX5_isFarAbove 8 = .ok (.iload_n 2, 1) := by decide +kernel
theorem dX5_isFarAbove_9 : decode cX5_isFarAbove 9 = .ok (.invokevirtual 15, 3) := by decide +kernel
theorem dX5_isFarAbove_12 : decode cX5_isFarAbove 12 = .ok (.aload_n 1, 1) := by decide +kernel
theorem dX5_isFarAbove_13 : decode cX5_isFarAbove 13 = .ok (.iload_n 2, 1) := by decide +kernel
theorem dX5_isFarAbove_14 : decode cX5_isFarAbove 14 = .ok (.invokevirtual 15, 3) := by decide +kernel
theorem dX5_isFarAbove_17 : decode cX5_isFarAbove 17 = .ok (.isub, 1) := by decide +kernel
theorem dX5_isFarAbove_18 : decode cX5_isFarAbove 18 = .ok (.bipush 20, 2) := by decide +kernel
theorem dX5_isFarAbove_20 : decode cX5_isFarAbove 20 = .ok (.if_icmp .le 5, 3) := by decide +kernel
theorem dX5_isFarAbove_23 : decode cX5_isFarAbove 23 = .ok (.iconst 1, 1) := by decide +kernel
theorem dX5_isFarAbove_24 : decode cX5_isFarAbove 24 = .ok (.ireturn, 1) := by decide +kernel
theorem dX5_isFarAbove_25 : decode cX5_isFarAbove 25 = .ok (.iinc 2 1, 3) := by decide +kernel
theorem dX5_isFarAbove_28 : decode cX5_isFarAbove 28 = .ok (.goto (-26), 3) := by decide +kernel
theorem dX5_isFarAbove_31 : decode cX5_isFarAbove 31 = .ok (.iconst 0, 1) := by decide +kernel
theorem dX5_isFarAbove_32 : decode cX5_isFarAbove 32 = .ok (.ireturn, 1) := by decide +kernel
theorem dX6_init_0 : decode cX6_init 0 = .ok (.aload_n 0, 1) := by decide +kernel
theorem dX6_init_1 : decode cX6_init 1 = .ok (.invokespecial 1, 3) := by decide +kernel
theorem dX6_init_4 : decode cX6_init 4 = .ok (.aload_n 0, 1) := by decide +kernel
theorem dX6_init_5 : decode cX6_init 5 = .ok (.new 7, 3) := by decide +kernel
theorem dX6_init_8 : decode cX6_init 8 = .ok (.dup, 1) := by decide +kernel
theorem dX6_init_9 : decode cX6_init 9 = .ok (.invokespecial 9, 3) := by decide +kernel
theorem dX6_init_12 : decode cX6_init 12 = .ok (.putfield 10, 3) := by decide +kernel
theorem dX6_init_15 : decode cX6_init 15 = .ok (.aload_n 0, 1) := by decide +kernel
theorem dX6_init_16 : decode cX6_init 16 = .ok (.new 7, 3) := by decide +kernel
theorem dX6_init_19 : decode cX6_init 19 = .ok (.dup, 1) := by decide +kernel
theorem dX6_init_20 : decode cX6_init 20 = .ok (.invokespecial 9, 3) := by decide +kernel
theorem dX6_init_23 : decode cX6_init 23 = .ok (.putfield 16, 3) := by decide +kernel
theorem dX6_init_26 : decode cX6_init 26 = .ok (.aload_n 0, 1) := by decide +kernel
theorem dX6_init_27 : decode cX6_init 27 = .ok (.new 7, 3) := by decide +kernel
theorem dX6_init_30 : decode cX6_init 30 = .ok (.dup, 1) := by decide +kernel
theorem dX6_init_31 : decode cX6_init 31 = .ok (.invokespecial 9, 3) := by decide +kernel
theorem dX6_init_34 : decode cX6_init 34 = .ok (.putfield 19, 3) := by decide +kernel
theorem dX6_init_37 : decode cX6_init 37 = .ok (.aload_n 0, 1) := by decide +kernel
theorem dX6_init_38 : decode cX6_init 38 = .ok (.new 7, 3) := by decide +kernel
theorem dX6_init_41 : decode cX6_init 41 = .ok (.dup, 1) := by decide +kernel
theorem dX6_init_42 : decode cX6_init 42 = .ok (.invokespecial 9, 3) := by decide +kernel
theorem dX6_init_45 : decode cX6_init 45 = .ok (.putfield 22, 3) := by decide +kernel
theorem dX6_init_48 : decode cX6_init 48 = .ok (.aload_n 0, 1) := by decide +kernel
theorem dX6_init_49 : decode cX6_init 49 = .ok (.bipush 6, 2) := by decide +kernel
theorem dX6_init_51 : decode cX6_init 51 = .ok (.newarray .int, 2) := by decide +kernel
theorem dX6_init_53 : decode cX6_init 53 = .ok (.putfield 25, 3) := by decide +kernel
theorem dX6_init_56 : decode cX6_init 56 = .ok (.iconst 0, 1) := by decide +kernel
theorem dX6_init_57 : decode cX6_init 57 = .ok (.istore_n 1, 1) := by decide +kernel
theorem dX6_init_58 : decode cX6_init 58 = .ok (.iload_n 1, 1) := by decide +kernel
theorem dX6_init_59 : decode cX6_init 59 = .ok (.aload_n 0, 1) := by decide +kernel
theorem dX6_init_60 : decode cX6_init 60 = .ok (.getfield 25, 3) := by decide +kernel
theorem dX6_init_63 : decode cX6_init 63 = .ok (.arraylength, 1) := by decide +kernel
theorem dX6_init_64 : decode cX6_init 64 = .ok (.if_icmp .ge 18, 3) := by decide +kernel
theorem dX6_init_67 : decode cX6_init 67 = .ok (.aload_n 0, 1) := by decide +kernel
theorem dX6_init_68 : decode cX6_init 68 = .ok (.getfield 25, 3) := by decide +kernel
theorem dX6_init_71 : decode cX6_init 71 = .ok (.iload_n 1, 1) := by decide +kernel
theorem dX6_init_72 : decode cX6_init 72 = .ok (.sipush 1000, 3) := by decide +kernel
theorem dX6_init_75 : decode cX6_init 75 = .ok (.iastore, 1) := by decide +kernel
theorem dX6_init_76 : decode cX6_init 76 = .ok (.iinc 1 1, 3) := by decide +kernel
theorem dX6_init_79 : decode cX6_init 79 = .ok (.goto (-21), 3) := by decide +kernel
theorem dX6_init_82 : decode cX6_init 82 = .ok (.return_, 1) := by decide +kernel
theorem dX6_athlete_0 : decode cX6_athlete 0 = .ok (.iload_n 1, 1) := by decide +kernel
theorem dX6_athlete_1 : decode cX6_athlete 1 = .ok (.invokestatic 29, 3) := by decide +kernel
theorem dX6_athlete_4 : decode cX6_athlete 4 = .ok (.aload_n 0, 1) := by decide +kernel
theorem dX6_athlete_5 : decode cX6_athlete 5 = .ok (.getfield 10, 3) := by decide +kernel
theorem dX6_athlete_8 : decode cX6_athlete 8 = .ok (.invokevirtual 33, 3) := by decide +kernel
theorem dX6_athlete_11 : decode cX6_athlete 11 = .ok (.bipush 16, 2) := by decide +kernel
theorem dX6_athlete_13 : decode cX6_athlete 13 = .ok (.if_icmp .lt 13, 3) := by decide +kernel
theorem dX6_athlete_16 : decode cX6_athlete 16 = .ok (.new 37, 3) := by decide +kernel
theorem dX6_athlete_19 : decode cX6_athlete 19 = .ok (.dup, 1) := by decide +kernel
theorem dX6_athlete_20 : decode cX6_athlete 20 = .ok (.ldc 39, 2) := by decide +kernel
theorem dX6_athlete_22 : decode cX6_athlete 22 = .ok (.invokespecial 41, 3) := by decide +kernel
theorem dX6_athlete_25 : decode cX6_athlete 25 = .ok (.athrow, 1) := by decide +kernel
theorem dX6_athlete_26 : decode cX6_athlete 26 = .ok (.aload_n 0, 1) := by decide +kernel
theorem dX6_athlete_27 : decode cX6_athlete 27 = .ok (.getfield 10, 3) := by decide +kernel
theorem dX6_athlete_30 : decode cX6_athlete 30 = .ok (.new 44, 3) := by decide +kernel
theorem dX6_athlete_33 : decode cX6_athlete 33 = .ok (.dup, 1) := by decide +kernel
theorem dX6_athlete_34 : decode cX6_athlete 34 = .ok (.aload_n 0, 1) := by decide +kernel
theorem dX6_athlete_35 : decode cX6_athlete 35 = .ok (.getfield 10, 3) := by decide +kernel
theorem dX6_athlete_38 : decode cX6_athlete 38 = .ok (.invokevirtual 33, 3) := by decide +kernel
theorem dX6_athlete_41 : decode cX6_athlete 41 = .ok (.iload_n 1, 1) := by decide +kernel
theorem dX6_athlete_42 : decode cX6_athlete 42 = .ok (.invokespecial 46, 3) := by decide +kernel
theorem dX6_athlete_45 : decode cX6_athlete 45 = .ok (.invokevirtual 49, 3) := by decide +kernel
theorem dX6_athlete_48 : decode cX6_athlete 48 = .ok (.pop, 1) := by decide +kernel
theorem dX6_athlete_49 : decode cX6_athlete 49 = .ok (.aload_n 0, 1) := by decide +kernel
theorem dX6_athlete_50 : decode cX6_athlete 50 = .ok (.getfield 10, 3) := by decide +kernel
theorem dX6_athlete_53 : decode cX6_athlete 53 = .ok (.invokevirtual 33, 3) := by decide +kernel
theorem dX6_athlete_56 : decode cX6_athlete 56 = .ok (.iconst 1, 1) := by decide +kernel
theorem dX6_athlete_57 : decode cX6_athlete 57 = .ok (.isub, 1) := by decide +kernel
theorem dX6_athlete_58 : decode cX6_athlete 58 = .ok (.ireturn, 1) := by decide +kernel
theorem dX6_body_0 : decode cX6_body 0 = .ok (.aload_n 0, 1) := by decide +kernel
theorem dX6_body_1 : decode cX6_body 1 = .ok (.iload_n 1, 1) := by decide +kernel
theorem dX6_body_2 : decode cX6_body 2 = .ok (.invokevirtual 53, 3) := by decide +kernel
theorem dX6_body_5 : decode cX6_body 5 = .ok (.astore 4, 2) := by decide +kernel
theorem dX6_body_7 : decode cX6_body 7 = .ok (.iload_n 2, 1) := by decide +kernel
theorem dX6_body_8 : decode cX6_body 8 = .ok (.invokestatic 57, 3) := by decide +kernel
theorem dX6_body_11 : decode cX6_body 11 = .ok (.iload_n 3, 1) := by decide +kernel
theorem dX6_body_12 : decode cX6_body 12 = .ok (.ifCond .lt 9, 3) := by decide +kernel
theorem dX6_body_15 : decode cX6_body 15 = .ok (.iload_n 3, 1) := by decide +kernel
theorem dX6_body_16 : decode cX6_body 16 = .ok (.bipush 100, 2) := by decide +kernel
theorem dX6_body_18 : decode cX6_body 18 = .ok (.if_icmp .le 13, 3) := by decide +kernel
theorem dX6_body_21 : decode cX6_body 21 = .ok (.new 60, 3) := by decide +kernel
theorem dX6_body_24 : decode cX6_body 24 = .ok (.dup, 1) := by decide +kernel
theorem dX6_body_25 : decode cX6_body 25 = .ok (.ldc 62, 2) := by decide +kernel
theorem dX6_body_27 : decode cX6_body 27 = .ok (.invokespecial 64, 3) := by decide +kernel
theorem dX6_body_30 : decode cX6_body 30 = .ok (.athrow, 1) := by decide +kernel
theorem dX6_body_31 : decode cX6_body 31 = .ok (.aload 4, 2) := by decide +kernel
theorem dX6_body_33 : decode cX6_body 33 = .ok (.getfield 65, 3) := by decide +kernel
theorem dX6_body_36 : decode cX6_body 36 = .ok (.iload_n 2, 1) := by decide +kernel
theorem dX6_body_37 : decode cX6_body 37 = .ok (.invokevirtual 69, 3) := by decide +kernel
theorem dX6_body_40 : decode cX6_body 40 = .ok (.istore 5, 2) := by decide +kernel
theorem dX6_body_42 : decode cX6_body 42 = .ok (.aload 4, 2) := by decide +kernel
theorem dX6_body_44 : decode cX6_body 44 = .ok (.getfield 65, 3) := by decide +kernel
theorem dX6_body_47 : decode cX6_body 47 = .ok (.iload_n 2, 1) := by decide +kernel
theorem dX6_body_48 : decode cX6_body 48 = .ok (.iload_n 3, 1) := by decide +kernel
theorem dX6_body_49 : decode cX6_body 49 = .ok (.invokevirtual 75, 3) := by decide +kernel
theorem dX6_body_52 : decode cX6_body 52 = .ok (.iload 5, 2) := by decide +kernel
theorem dX6_body_54 : decode cX6_body 54 = .ok (.ireturn, 1) := by decide +kernel
theorem dX6_show_0 : decode cX6_show 0 = .ok (.aload_n 0, 1) := by decide +kernel
theorem dX6_show_1 : decode cX6_show 1 = .ok (.iload_n 1, 1) := by decide +kernel
theorem dX6_show_2 : decode cX6_show 2 = .ok (.invokevirtual 53, 3) := by decide +kernel
theorem dX6_show_5 : decode cX6_show 5 = .ok (.astore 4, 2) := by decide +kernel
theorem dX6_show_7 : decode cX6_show 7 = .ok (.iload_n 2, 1) := by decide +kernel
theorem dX6_show_8 : decode cX6_show 8 = .ok (.invokestatic 57, 3) := by decide +kernel
theorem dX6_show_11 : decode cX6_show 11 = .ok (.iload_n 3, 1) := by decide +kernel
theorem dX6_show_12 : decode cX6_show 12 = .ok (.iconst (-1), 1) := by decide +kernel
theorem dX6_show_13 : decode cX6_show 13 = .ok (.if_icmp .eq 23, 3) := by decide +kernel
theorem dX6_show_16 : decode cX6_show 16 = .ok (.iload_n 3, 1) := by decide +kernel
theorem dX6_show_17 : decode cX6_show 17 = .ok (.ifCond .lt 9, 3) := by decide +kernel
theorem dX6_show_20 : decode cX6_show 20 = .ok (.iload_n 3, 1) := by decide +kernel
theorem dX6_show_21 : decode cX6_show 21 = .ok (.bipush 100, 2) := by decide +kernel
theorem dX6_show_23 : decode cX6_show 23 = .ok (.if_icmp .le 13, 3) := by decide +kernel
theorem dX6_show_26 : decode cX6_show 26 = .ok (.new 60, 3) := by decide +kernel
theorem dX6_show_29 : decode cX6_show 29 = .ok (.dup, 1) := by decide +kernel
theorem dX6_show_30 : decode cX6_show 30 = .ok (.ldc 78, 2) := by decide +kernel
theorem dX6_show_32 : decode cX6_show 32 = .ok (.invokespecial 64, 3) := by decide +kernel
theorem dX6_show_35 : decode cX6_show 35 = .ok (.athrow, 1) := by decide +kernel
theorem dX6_show_36 : decode cX6_show 36 = .ok (.aload 4, 2) := by decide +kernel
theorem dX6_show_38 : decode cX6_show 38 = .ok (.iload_n 2, 1) := by decide +kernel
theorem dX6_show_39 : decode cX6_show 39 = .ok (.invokevirtual 80, 3) := by decide +kernel
theorem dX6_show_42 : decode cX6_show 42 = .ok (.istore 5, 2) := by decide +kernel
theorem dX6_show_44 : decode cX6_show 44 = .ok (.aload 4, 2) := by decide +kernel
theorem dX6_show_46 : decode cX6_show 46 = .ok (.getfield 83, 3) := by decide +kernel
theorem dX6_show_49 : decode cX6_show 49 = .ok (.iload_n 2, 1) := by decide +kernel
theorem dX6_show_50 : decode cX6_show 50 = .ok (.iload_n 3, 1) := by decide +kernel
theorem dX6_show_51 : decode cX6_show 51 = .ok (.invokevirtual 75, 3) := by decide +kernel
theorem dX6_show_54 : decode cX6_show 54 = .ok (.iload 5, 2) := by decide +kernel
theorem dX6_show_56 : decode cX6_show 56 = .ok (.ireturn, 1) := by decide +kernel
theorem dX6_found_0 : decode cX6_found 0 = .ok (.aload_n 0, 1) := by decide +kernel
theorem dX6_found_1 : decode cX6_found 1 = .ok (.iload_n 1, 1) := by decide +kernel
theorem dX6_found_2 : decode cX6_found 2 = .ok (.invokevirtual 53, 3) := by decide +kernel
theorem dX6_found_5 : decode cX6_found 5 = .ok (.astore_n 3, 1) := by decide +kernel
theorem dX6_found_6 : decode cX6_found 6 = .ok (.iload_n 2, 1) := by decide +kernel
theorem dX6_found_7 : decode cX6_found 7 = .ok (.invokestatic 57, 3) := by decide +kernel
theorem dX6_found_10 : decode cX6_found 10 = .ok (.aload_n 3, 1) := by decide +kernel
theorem dX6_found_11 : decode cX6_found 11 = .ok (.getfield 86, 3) := by decide +kernel
theorem dX6_found_14 : decode cX6_found 14 = .ok (.ifCond .ne 13, 3) := by decide +kernel
theorem dX6_found_17 : decode cX6_found 17 = .ok (.new 90, 3) := by decide +kernel
theorem dX6_found_20 : decode cX6_found 20 = .ok (.dup, 1) := by decide +kernel
theorem dX6_found_21 : decode cX6_found 21 = .ok (.ldc 92, 2) := by decide +kernel
theorem dX6_found_23 : decode cX6_found 23 = .ok (.invokespecial 94, 3) := by decide +kernel
theorem dX6_found_26 : decode cX6_found 26 = .ok (.athrow, 1) := by decide +kernel
theorem dX6_found_27 : decode cX6_found 27 = .ok (.aload_n 3, 1) := by decide +kernel
theorem dX6_found_28 : decode cX6_found 28 = .ok (.getfield 95, 3) := by decide +kernel
theorem dX6_found_31 : decode cX6_found 31 = .ok (.iload_n 2, 1) := by decide +kernel
theorem dX6_found_32 : decode cX6_found 32 = .ok (.invokevirtual 69, 3) := by decide +kernel
theorem dX6_found_35 : decode cX6_found 35 = .ok (.ireturn, 1) := by decide +kernel
theorem dX6_classifier_0 : decode cX6_classifier 0 = .ok (.iload_n 1, 1) := by decide +kernel
theorem dX6_classifier_1 : decode cX6_classifier 1 = .ok (.invokestatic 29, 3) := by decide +kernel
theorem dX6_classifier_4 : decode cX6_classifier 4 = .ok (.aload_n 0, 1) := by decide +kernel
theorem dX6_classifier_5 : decode cX6_classifier 5 = .ok (.getfield 16, 3) := by decide +kernel
theorem dX6_classifier_8 : decode cX6_classifier 8 = .ok (.invokevirtual 33, 3) := by decide +kernel
theorem dX6_classifier_11 : decode cX6_classifier 11 = .ok (.bipush 8, 2) := by decide +kernel
theorem dX6_classifier_13 : decode cX6_classifier 13 = .ok (.if_icmp .lt 13, 3) := by decide +kernel
theorem dX6_classifier_16 : decode cX6_classifier 16 = .ok (.new 37, 3) := by decide +kernel
theorem dX6_classifier_19 : decode cX6_classifier 19 = .ok (.dup, 1) := by decide +kernel
theorem dX6_classifier_20 : decode cX6_classifier 20 = .ok (.ldc 98, 2) := by decide +kernel
theorem dX6_classifier_22 : decode cX6_classifier 22 = .ok (.invokespecial 41, 3) := by decide +kernel
theorem dX6_classifier_25 : decode cX6_classifier 25 = .ok (.athrow, 1) := by decide +kernel
theorem dX6_classifier_26 : decode cX6_classifier 26 = .ok (.aload_n 0, 1) := by decide +kernel
theorem dX6_classifier_27 : decode cX6_classifier 27 = .ok (.getfield 16, 3) := by decide +kernel
theorem dX6_classifier_30 : decode cX6_classifier 30 = .ok (.new 100, 3) := by decide +kernel
theorem dX6_classifier_33 : decode cX6_classifier 33 = .ok (.dup, 1) := by decide +kernel
theorem dX6_classifier_34 : decode cX6_classifier 34 = .ok (.iload_n 1, 1) := by decide +kernel
theorem dX6_classifier_35 : decode cX6_classifier 35 = .ok (.invokespecial 102, 3) := by decide +kernel
theorem dX6_classifier_38 : decode cX6_classifier 38 = .ok (.invokevirtual 49, 3) := by decide +kernel
theorem dX6_classifier_41 : decode cX6_classifier 41 = .ok (.pop, 1) := by decide +kernel
theorem dX6_classifier_42 : decode cX6_classifier 42 = .ok (.aload_n 0, 1) := by decide +kernel
theorem dX6_classifier_43 : decode cX6_classifier 43 = .ok (.getfield 16, 3) := by decide +kernel
theorem dX6_classifier_46 : decode cX6_classifier 46 = .ok (.invokevirtual 33, 3) := by decide +kernel
theorem dX6_classifier_49 : decode cX6_classifier 49 = .ok (.iconst 1, 1) := by decide +kernel
theorem dX6_classifier_50 : decode cX6_classifier 50 = .ok (.isub, 1) := by decide +kernel
theorem dX6_classifier_51 : decode cX6_classifier 51 = .ok (.ireturn, 1) := by decide +kernel
theorem dX6_kind_0 : decode cX6_kind 0 = .ok (.iload_n 1, 1) := by decide +kernel
theorem dX6_kind_1 : decode cX6_kind 1 = .ok (.invokestatic 57, 3) := by decide +kernel
theorem dX6_kind_4 : decode cX6_kind 4 = .ok (.iload_n 2, 1) := by decide +kernel
theorem dX6_kind_5 : decode cX6_kind 5 = .ok (.iconst 1, 1) := by decide +kernel
theorem dX6_kind_6 : decode cX6_kind 6 = .ok (.if_icmp .lt 9, 3) := by decide +kernel
theorem dX6_kind_9 : decode cX6_kind 9 = .ok (.iload_n 2, 1) := by decide +kernel
theorem dX6_kind_10 : decode cX6_kind 10 = .ok (.bipush 100, 2) := by decide +kernel
theorem dX6_kind_12 : decode cX6_kind 12 = .ok (.if_icmp .le 13, 3) := by decide +kernel
theorem dX6_kind_15 : decode cX6_kind 15 = .ok (.new 60, 3) := by decide +kernel
theorem dX6_kind_18 : decode cX6_kind 18 = .ok (.dup, 1) := by decide +kernel
theorem dX6_kind_19 : decode cX6_kind 19 = .ok (.ldc 104, 2) := by decide +kernel
theorem dX6_kind_21 : decode cX6_kind 21 = .ok (.invokespecial 64, 3) := by decide +kernel
theorem dX6_kind_24 : decode cX6_kind 24 = .ok (.athrow, 1) := by decide +kernel
theorem dX6_kind_25 : decode cX6_kind 25 = .ok (.iload_n 3, 1) := by decide +kernel
theorem dX6_kind_26 : decode cX6_kind 26 = .ok (.iload 4, 2) := by decide +kernel
theorem dX6_kind_28 : decode cX6_kind 28 = .ok (.invokestatic 106, 3) := by decide +kernel
theorem dX6_kind_31 : decode cX6_kind 31 = .ok (.aload_n 0, 1) := by decide +kernel
theorem dX6_kind_32 : decode cX6_kind 32 = .ok (.getfield 19, 3) := by decide +kernel
theorem dX6_kind_35 : decode cX6_kind 35 = .ok (.invokevirtual 33, 3) := by decide +kernel
theorem dX6_kind_38 : decode cX6_kind 38 = .ok (.bipush 8, 2) := by decide +kernel
theorem dX6_kind_40 : decode cX6_kind 40 = .ok (.if_icmp .lt 13, 3) := by decide +kernel
theorem dX6_kind_43 : decode cX6_kind 43 = .ok (.new 37, 3) := by decide +kernel
theorem dX6_kind_46 : decode cX6_kind 46 = .ok (.dup, 1) := by decide +kernel
theorem dX6_kind_47 : decode cX6_kind 47 = .ok (.ldc 109, 2) := by decide +kernel
theorem dX6_kind_49 : decode cX6_kind 49 = .ok (.invokespecial 41, 3) := by decide +kernel
theorem dX6_kind_52 : decode cX6_kind 52 = .ok (.athrow, 1) := by decide +kernel
theorem dX6_kind_53 : decode cX6_kind 53 = .ok (.new 111, 3) := by decide +kernel
theorem dX6_kind_56 : decode cX6_kind 56 = .ok (.dup, 1) := by decide +kernel
theorem dX6_kind_57 : decode cX6_kind 57 = .ok (.aload_n 0, 1) := by decide +kernel
theorem dX6_kind_58 : decode cX6_kind 58 = .ok (.getfield 19, 3) := by decide +kernel
theorem dX6_kind_61 : decode cX6_kind 61 = .ok (.invokevirtual 33, 3) := by decide +kernel
theorem dX6_kind_64 : decode cX6_kind 64 = .ok (.iload_n 1, 1) := by decide +kernel
theorem dX6_kind_65 : decode cX6_kind 65 = .ok (.iload_n 2, 1) := by decide +kernel
theorem dX6_kind_66 : decode cX6_kind 66 = .ok (.invokespecial 113, 3) := by decide +kernel
theorem dX6_kind_69 : decode cX6_kind 69 = .ok (.astore 5, 2) := by decide +kernel
theorem dX6_kind_71 : decode cX6_kind 71 = .ok (.aload 5, 2) := by decide +kernel
theorem dX6_kind_73 : decode cX6_kind 73 = .ok (.iload_n 3, 1) := by decide +kernel
theorem dX6_kind_74 : decode cX6_kind 74 = .ok (.iload 4, 2) := by decide +kernel
theorem dX6_kind_76 : decode cX6_kind 76 = .ok (.invokevirtual 116, 3) := by decide +kernel
theorem dX6_kind_79 : decode cX6_kind 79 = .ok (.aload_n 0, 1) := by decide +kernel
theorem dX6_kind_80 : decode cX6_kind 80 = .ok (.getfield 19, 3) := by decide +kernel
theorem dX6_kind_83 : decode cX6_kind 83 = .ok (.aload 5, 2) := by decide +kernel
theorem dX6_kind_85 : decode cX6_kind 85 = .ok (.invokevirtual 49, 3) := by decide +kernel
theorem dX6_kind_88 : decode cX6_kind 88 = .ok (.pop, 1) := by decide +kernel
theorem dX6_kind_89 : decode cX6_kind 89 = .ok (.aload 5, 2) := by decide +kernel
theorem dX6_kind_91 : decode cX6_kind 91 = .ok (.getfield 119, 3) := by decide +kernel
theorem dX6_kind_94 : decode cX6_kind 94 = .ok (.ireturn, 1) := by decide +kernel
theorem dX6_belongs_0 : decode cX6_belongs 0 = .ok (.aload_n 0, 1) := by decide +kernel
theorem dX6_belongs_1 : decode cX6_belongs 1 = .ok (.aload_n 0, 1) := by decide +kernel
theorem dX6_belongs_2 : decode cX6_belongs 2 = .ok (.iload_n 1, 1) := by decide +kernel
theorem dX6_belongs_3 : decode cX6_belongs 3 = .ok (.invokevirtual 53, 3) := by decide +kernel
theorem dX6_belongs_6 : decode cX6_belongs 6 = .ok (.getfield 65, 3) := by decide +kernel
theorem dX6_belongs_9 : decode cX6_belongs 9 = .ok (.invokevirtual 123, 3) := by decide +kernel
theorem dX6_belongs_12 : decode cX6_belongs 12 = .ok (.invokestatic 127, 3) := by decide +kernel
theorem dX6_belongs_15 : decode cX6_belongs 15 = .ok (.ireturn, 1) := by decide +kernel
theorem dX6_test_0 : decode cX6_test 0 = .ok (.aload_n 0, 1) := by decide +kernel
theorem dX6_test_1 : decode cX6_test 1 = .ok (.iload_n 1, 1) := by decide +kernel
theorem dX6_test_2 : decode cX6_test 2 = .ok (.invokevirtual 53, 3) := by decide +kernel
theorem dX6_test_5 : decode cX6_test 5 = .ok (.astore 4, 2) := by decide +kernel
theorem dX6_test_7 : decode cX6_test 7 = .ok (.aload_n 0, 1) := by decide +kernel
theorem dX6_test_8 : decode cX6_test 8 = .ok (.iload_n 2, 1) := by decide +kernel
theorem dX6_test_9 : decode cX6_test 9 = .ok (.invokevirtual 131, 3) := by decide +kernel
theorem dX6_test_12 : decode cX6_test 12 = .ok (.getfield 135, 3) := by decide +kernel
theorem dX6_test_15 : decode cX6_test 15 = .ok (.istore 5, 2) := by decide +kernel
theorem dX6_test_17 : decode cX6_test 17 = .ok (.aload_n 0, 1) := by decide +kernel
theorem dX6_test_18 : decode cX6_test 18 = .ok (.iload_n 3, 1) := by decide +kernel
theorem dX6_test_19 : decode cX6_test 19 = .ok (.invokevirtual 131, 3) := by decide +kernel
theorem dX6_test_22 : decode cX6_test 22 = .ok (.getfield 135, 3) := by decide +kernel
theorem dX6_test_25 : decode cX6_test 25 = .ok (.istore 6, 2) := by decide +kernel
theorem dX6_test_27 : decode cX6_test 27 = .ok (.iload 5, 2) := by decide +kernel
theorem dX6_test_29 : decode cX6_test 29 = .ok (.iload 6, 2) := by decide +kernel
theorem dX6_test_31 : decode cX6_test 31 = .ok (.if_icmp .eq 23, 3) := by decide +kernel
theorem dX6_test_34 : decode cX6_test 34 = .ok (.iload 5, 2) := by decide +kernel
theorem dX6_test_36 : decode cX6_test 36 = .ok (.aload 4, 2) := by decide +kernel
theorem dX6_test_38 : decode cX6_test 38 = .ok (.getfield 138, 3) := by decide +kernel
theorem dX6_test_41 : decode cX6_test 41 = .ok (.if_icmp .eq 13, 3) := by decide +kernel
theorem dX6_test_44 : decode cX6_test 44 = .ok (.iload 6, 2) := by decide +kernel
theorem dX6_test_46 : decode cX6_test 46 = .ok (.aload 4, 2) := by decide +kernel
theorem dX6_test_48 : decode cX6_test 48 = .ok (.getfield 138, 3) := by decide +kernel
theorem dX6_test_51 : decode cX6_test 51 = .ok (.if_icmp .ne 13, 3) := by decide +kernel
theorem dX6_test_54 : decode cX6_test 54 = .ok (.new 60, 3) := by decide +kernel
theorem dX6_test_57 : decode cX6_test 57 = .ok (.dup, 1) := by decide +kernel
theorem dX6_test_58 : decode cX6_test 58 = .ok (.ldc 139, 2) := by decide +kernel
theorem dX6_test_60 : decode cX6_test 60 = .ok (.invokespecial 64, 3) := by decide +kernel
theorem dX6_test_63 : decode cX6_test 63 = .ok (.athrow, 1) := by decide +kernel
theorem dX6_test_64 : decode cX6_test 64 = .ok (.aload 4, 2) := by decide +kernel
theorem dX6_test_66 : decode cX6_test 66 = .ok (.getfield 141, 3) := by decide +kernel
theorem dX6_test_69 : decode cX6_test 69 = .ok (.bipush 120, 2) := by decide +kernel
theorem dX6_test_71 : decode cX6_test 71 = .ok (.if_icmp .ne 13, 3) := by decide +kernel
theorem dX6_test_74 : decode cX6_test 74 = .ok (.new 145, 3) := by decide +kernel
theorem dX6_test_77 : decode cX6_test 77 = .ok (.dup, 1) := by decide +kernel
theorem dX6_test_78 : decode cX6_test 78 = .ok (.ldc 147, 2) := by decide +kernel
theorem dX6_test_80 : decode cX6_test 80 = .ok (.invokespecial 149, 3) := by decide +kernel
theorem dX6_test_83 : decode cX6_test 83 = .ok (.athrow, 1) := by decide +kernel
theorem dX6_test_84 : decode cX6_test 84 = .ok (.aload 4, 2) := by decide +kernel
theorem dX6_test_86 : decode cX6_test 86 = .ok (.invokevirtual 150, 3) := by decide +kernel
theorem dX6_test_89 : decode cX6_test 89 = .ok (.aload_n 0, 1) := by decide +kernel
theorem dX6_test_90 : decode cX6_test 90 = .ok (.aload 4, 2) := by decide +kernel
theorem dX6_test_92 : decode cX6_test 92 = .ok (.bipush 110, 2) := by decide +kernel
theorem dX6_test_94 : decode cX6_test 94 = .ok (.invokevirtual 153, 3) := by decide +kernel
theorem dX6_test_97 : decode cX6_test 97 = .ok (.aload 4, 2) := by decide +kernel
theorem dX6_test_99 : decode cX6_test 99 = .ok (.getfield 141, 3) := by decide +kernel
theorem dX6_test_102 : decode cX6_test 102 = .ok (.ireturn, 1) := by decide +kernel
theorem dX6_status_0 : decode cX6_status 0 = .ok (.aload_n 0, 1) := by decide +kernel
theorem dX6_status_1 : decode cX6_status 1 = .ok (.iload_n 1, 1) := by decide +kernel
theorem dX6_status_2 : decode cX6_status 2 = .ok (.invokevirtual 53, 3) := by decide +kernel
theorem dX6_status_5 : decode cX6_status 5 = .ok (.getfield 141, 3) := by decide +kernel
theorem dX6_status_8 : decode cX6_status 8 = .ok (.ireturn, 1) := by decide +kernel
theorem dX6_classOf_0 : decode cX6_classOf 0 = .ok (.aload_n 0, 1) := by decide +kernel
theorem dX6_classOf_1 : decode cX6_classOf 1 = .ok (.iload_n 1, 1) := by decide +kernel
theorem dX6_classOf_2 : decode cX6_classOf 2 = .ok (.invokevirtual 53, 3) := by decide +kernel
theorem dX6_classOf_5 : decode cX6_classOf 5 = .ok (.getfield 157, 3) := by decide +kernel
theorem dX6_classOf_8 : decode cX6_classOf 8 = .ok (.invokestatic 127, 3) := by decide +kernel
theorem dX6_classOf_11 : decode cX6_classOf 11 = .ok (.ireturn, 1) := by decide +kernel
theorem dX6_watch_0 : decode cX6_watch 0 = .ok (.aload_n 0, 1) := by decide +kernel
theorem dX6_watch_1 : decode cX6_watch 1 = .ok (.iload_n 1, 1) := by decide +kernel
theorem dX6_watch_2 : decode cX6_watch 2 = .ok (.invokevirtual 53, 3) := by decide +kernel
theorem dX6_watch_5 : decode cX6_watch 5 = .ok (.astore_n 2, 1) := by decide +kernel
theorem dX6_watch_6 : decode cX6_watch 6 = .ok (.aload_n 2, 1) := by decide +kernel
theorem dX6_watch_7 : decode cX6_watch 7 = .ok (.getfield 141, 3) := by decide +kernel
theorem dX6_watch_10 : decode cX6_watch 10 = .ok (.bipush 110, 2) := by decide +kernel
theorem dX6_watch_12 : decode cX6_watch 12 = .ok (.if_icmp .eq 22, 3) := by decide +kernel
theorem dX6_watch_15 : decode cX6_watch 15 = .ok (.aload_n 2, 1) := by decide +kernel
theorem dX6_watch_16 : decode cX6_watch 16 = .ok (.getfield 141, 3) := by decide +kernel
theorem dX6_watch_19 : decode cX6_watch 19 = .ok (.bipush 114, 2) := by decide +kernel
theorem dX6_watch_21 : decode cX6_watch 21 = .ok (.if_icmp .eq 13, 3) := by decide +kernel
theorem dX6_watch_24 : decode cX6_watch 24 = .ok (.new 145, 3) := by decide +kernel
theorem dX6_watch_27 : decode cX6_watch 27 = .ok (.dup, 1) := by decide +kernel
theorem dX6_watch_28 : decode cX6_watch 28 = .ok (.ldc 161, 2) := by decide +kernel
theorem dX6_watch_30 : decode cX6_watch 30 = .ok (.invokespecial 149, 3) := by decide +kernel
theorem dX6_watch_33 : decode cX6_watch 33 = .ok (.athrow, 1) := by decide +kernel
theorem dX6_watch_34 : decode cX6_watch 34 = .ok (.aload_n 0, 1) := by decide +kernel
theorem dX6_watch_35 : decode cX6_watch 35 = .ok (.aload_n 2, 1) := by decide +kernel
theorem dX6_watch_36 : decode cX6_watch 36 = .ok (.invokevirtual 163, 3) := by decide +kernel
theorem dX6_watch_39 : decode cX6_watch 39 = .ok (.ifCond .ne 13, 3) := by decide +kernel
theorem dX6_watch_42 : decode cX6_watch 42 = .ok (.new 145, 3) := by decide +kernel
theorem dX6_watch_45 : decode cX6_watch 45 = .ok (.dup, 1) := by decide +kernel
theorem dX6_watch_46 : decode cX6_watch 46 = .ok (.ldc 167, 2) := by decide +kernel
theorem dX6_watch_48 : decode cX6_watch 48 = .ok (.invokespecial 149, 3) := by decide +kernel
theorem dX6_watch_51 : decode cX6_watch 51 = .ok (.athrow, 1) := by decide +kernel
theorem dX6_watch_52 : decode cX6_watch 52 = .ok (.aload_n 0, 1) := by decide +kernel
theorem dX6_watch_53 : decode cX6_watch 53 = .ok (.aload_n 2, 1) := by decide +kernel
theorem dX6_watch_54 : decode cX6_watch 54 = .ok (.invokevirtual 169, 3) := by decide +kernel
theorem dX6_watch_57 : decode cX6_watch 57 = .ok (.aload_n 2, 1) := by decide +kernel
theorem dX6_watch_58 : decode cX6_watch 58 = .ok (.getfield 141, 3) := by decide +kernel
theorem dX6_watch_61 : decode cX6_watch 61 = .ok (.ireturn, 1) := by decide +kernel
theorem dX6_protest_0 : decode cX6_protest 0 = .ok (.iload_n 1, 1) := by decide +kernel
theorem dX6_protest_1 : decode cX6_protest 1 = .ok (.invokestatic 29, 3) := by decide +kernel
theorem dX6_protest_4 : decode cX6_protest 4 = .ok (.aload_n 0, 1) := by decide +kernel
theorem dX6_protest_5 : decode cX6_protest 5 = .ok (.iload_n 2, 1) := by decide +kernel
theorem dX6_protest_6 : decode cX6_protest 6 = .ok (.invokevirtual 53, 3) := by decide +kernel
theorem dX6_protest_9 : decode cX6_protest 9 = .ok (.astore_n 3, 1) := by decide +kernel
theorem dX6_protest_10 : decode cX6_protest 10 = .ok (.aload_n 3, 1) := by decide +kernel
theorem dX6_protest_11 : decode cX6_protest 11 = .ok (.invokevirtual 173, 3) := by decide +kernel
theorem dX6_protest_14 : decode cX6_protest 14 = .ok (.ifCond .ne 13, 3) := by decide +kernel
theorem dX6_protest_17 : decode cX6_protest 17 = .ok (.new 145, 3) := by decide +kernel
theorem dX6_protest_20 : decode cX6_protest 20 = .ok (.dup, 1) := by decide +kernel
theorem dX6_protest_21 : decode cX6_protest 21 = .ok (.ldc 177, 2) := by decide +kernel
theorem dX6_protest_23 : decode cX6_protest 23 = .ok (.invokespecial 149, 3) := by decide +kernel
theorem dX6_protest_26 : decode cX6_protest 26 = .ok (.athrow, 1) := by decide +kernel
theorem dX6_protest_27 : decode cX6_protest 27 = .ok (.aload_n 0, 1) := by decide +kernel
theorem dX6_protest_28 : decode cX6_protest 28 = .ok (.getfield 25, 3) := by decide +kernel
theorem dX6_protest_31 : decode cX6_protest 31 = .ok (.iload_n 1, 1) := by decide +kernel
theorem dX6_protest_32 : decode cX6_protest 32 = .ok (.iaload, 1) := by decide +kernel
theorem dX6_protest_33 : decode cX6_protest 33 = .ok (.bipush 100, 2) := by decide +kernel
theorem dX6_protest_35 : decode cX6_protest 35 = .ok (.if_icmp .ge 13, 3) := by decide +kernel
theorem dX6_protest_38 : decode cX6_protest 38 = .ok (.new 145, 3) := by decide +kernel
theorem dX6_protest_41 : decode cX6_protest 41 = .ok (.dup, 1) := by decide +kernel
theorem dX6_protest_42 : decode cX6_protest 42 = .ok (.ldc 179, 2) := by decide +kernel
theorem dX6_protest_44 : decode cX6_protest 44 = .ok (.invokespecial 149, 3) := by decide +kernel
theorem dX6_protest_47 : decode cX6_protest 47 = .ok (.athrow, 1) := by decide +kernel
theorem dX6_protest_48 : decode cX6_protest 48 = .ok (.aload_n 3, 1) := by decide +kernel
theorem dX6_protest_49 : decode cX6_protest 49 = .ok (.getfield 157, 3) := by decide +kernel
theorem dX6_protest_52 : decode cX6_protest 52 = .ok (.astore 4, 2) := by decide +kernel
theorem dX6_protest_54 : decode cX6_protest 54 = .ok (.aload_n 0, 1) := by decide +kernel
theorem dX6_protest_55 : decode cX6_protest 55 = .ok (.aload_n 3, 1) := by decide +kernel
theorem dX6_protest_56 : decode cX6_protest 56 = .ok (.invokevirtual 169, 3) := by decide +kernel
theorem dX6_protest_59 : decode cX6_protest 59 = .ok (.aload_n 3, 1) := by decide +kernel
theorem dX6_protest_60 : decode cX6_protest 60 = .ok (.getfield 157, 3) := by decide +kernel
theorem dX6_protest_63 : decode cX6_protest 63 = .ok (.aload 4, 2) := by decide +kernel
theorem dX6_protest_65 : decode cX6_protest 65 = .ok (.if_acmp .eq 7, 3) := by decide +kernel
theorem dX6_protest_68 : decode cX6_protest 68 = .ok (.iconst 1, 1) := by decide +kernel
theorem dX6_protest_69 : decode cX6_protest 69 = .ok (.goto 4, 3) := by decide +kernel
theorem dX6_protest_72 : decode cX6_protest 72 = .ok (.iconst 0, 1) := by decide +kernel
theorem dX6_protest_73 : decode cX6_protest 73 = .ok (.istore 5, 2) := by decide +kernel
theorem dX6_protest_75 : decode cX6_protest 75 = .ok (.iload 5, 2) := by decide +kernel
theorem dX6_protest_77 : decode cX6_protest 77 = .ok (.ifCond .ne 14, 3) := by decide +kernel
theorem dX6_protest_80 : decode cX6_protest 80 = .ok (.aload_n 0, 1) := by decide +kernel
theorem dX6_protest_81 : decode cX6_protest 81 = .ok (.getfield 25, 3) := by decide +kernel
theorem dX6_protest_84 : decode cX6_protest 84 = .ok (.iload_n 1, 1) := by decide +kernel
theorem dX6_protest_85 : decode cX6_protest 85 = .ok (.dup2, 1) := by decide +kernel
theorem dX6_protest_86 : decode cX6_protest 86 = .ok (.iaload, 1) := by decide +kernel
theorem dX6_protest_87 : decode cX6_protest 87 = .ok (.bipush 100, 2) := by decide +kernel
theorem dX6_protest_89 : decode cX6_protest 89 = .ok (.isub, 1) := by decide +kernel
theorem dX6_protest_90 : decode cX6_protest 90 = .ok (.iastore, 1) := by decide +kernel
theorem dX6_protest_91 : decode cX6_protest 91 = .ok (.iload 5, 2) := by decide +kernel
theorem dX6_protest_93 : decode cX6_protest 93 = .ok (.ireturn, 1) := by decide +kernel
theorem dX6_money_0 : decode cX6_money 0 = .ok (.iload_n 1, 1) := by decide +kernel
theorem dX6_money_1 : decode cX6_money 1 = .ok (.invokestatic 29, 3) := by decide +kernel
theorem dX6_money_4 : decode cX6_money 4 = .ok (.aload_n 0, 1) := by decide +kernel
theorem dX6_money_5 : decode cX6_money 5 = .ok (.getfield 25, 3) := by decide +kernel
theorem dX6_money_8 : decode cX6_money 8 = .ok (.iload_n 1, 1) := by decide +kernel
theorem dX6_money_9 : decode cX6_money 9 = .ok (.iaload, 1) := by decide +kernel
theorem dX6_money_10 : decode cX6_money 10 = .ok (.ireturn, 1) := by decide +kernel
theorem dX6_year_0 : decode cX6_year 0 = .ok (.aload_n 0, 1) := by decide +kernel
theorem dX6_year_1 : decode cX6_year 1 = .ok (.getfield 197, 3) := by decide +kernel
theorem dX6_year_4 : decode cX6_year 4 = .ok (.ireturn, 1) := by decide +kernel
theorem dX6_next_0 : decode cX6_next 0 = .ok (.aload_n 0, 1) := by decide +kernel
theorem dX6_next_1 : decode cX6_next 1 = .ok (.getfield 197, 3) := by decide +kernel
theorem dX6_next_4 : decode cX6_next 4 = .ok (.bipush 40, 2) := by decide +kernel
theorem dX6_next_6 : decode cX6_next 6 = .ok (.if_icmp .lt 13, 3) := by decide +kernel
theorem dX6_next_9 : decode cX6_next 9 = .ok (.new 37, 3) := by decide +kernel
theorem dX6_next_12 : decode cX6_next 12 = .ok (.dup, 1) := by decide +kernel
theorem dX6_next_13 : decode cX6_next 13 = .ok (.ldc 200, 2) := by decide +kernel
theorem dX6_next_15 : decode cX6_next 15 = .ok (.invokespecial 41, 3) := by decide +kernel
theorem dX6_next_18 : decode cX6_next 18 = .ok (.athrow, 1) := by decide +kernel
theorem dX6_next_19 : decode cX6_next 19 = .ok (.aload_n 0, 1) := by decide +kernel
theorem dX6_next_20 : decode cX6_next 20 = .ok (.dup, 1) := by decide +kernel
theorem dX6_next_21 : decode cX6_next 21 = .ok (.getfield 197, 3) := by decide +kernel
theorem dX6_next_24 : decode cX6_next 24 = .ok (.iconst 1, 1) := by decide +kernel
theorem dX6_next_25 : decode cX6_next 25 = .ok (.iadd, 1) := by decide +kernel
theorem dX6_next_26 : decode cX6_next 26 = .ok (.putfield 197, 3) := by decide +kernel
theorem dX6_next_29 : decode cX6_next 29 = .ok (.iconst 0, 1) := by decide +kernel
theorem dX6_next_30 : decode cX6_next 30 = .ok (.istore_n 1, 1) := by decide +kernel
theorem dX6_next_31 : decode cX6_next 31 = .ok (.iload_n 1, 1) := by decide +kernel
theorem dX6_next_32 : decode cX6_next 32 = .ok (.aload_n 0, 1) := by decide +kernel
theorem dX6_next_33 : decode cX6_next 33 = .ok (.getfield 10, 3) := by decide +kernel
theorem dX6_next_36 : decode cX6_next 36 = .ok (.invokevirtual 33, 3) := by decide +kernel
theorem dX6_next_39 : decode cX6_next 39 = .ok (.if_icmp .ge 44, 3) := by decide +kernel
theorem dX6_next_42 : decode cX6_next 42 = .ok (.aload_n 0, 1) := by decide +kernel
theorem dX6_next_43 : decode cX6_next 43 = .ok (.getfield 10, 3) := by decide +kernel
theorem dX6_next_46 : decode cX6_next 46 = .ok (.iload_n 1, 1) := by decide +kernel
theorem dX6_next_47 : decode cX6_next 47 = .ok (.invokevirtual 185, 3) := by decide +kernel
theorem dX6_next_50 : decode cX6_next 50 = .ok (.checkcast 44, 3) := by decide +kernel
theorem dX6_next_53 : decode cX6_next 53 = .ok (.astore_n 2, 1) := by decide +kernel
theorem dX6_next_54 : decode cX6_next 54 = .ok (.aload_n 2, 1) := by decide +kernel
theorem dX6_next_55 : decode cX6_next 55 = .ok (.invokevirtual 202, 3) := by decide +kernel
theorem dX6_next_58 : decode cX6_next 58 = .ok (.ifCond .eq 19, 3) := by decide +kernel
theorem dX6_next_61 : decode cX6_next 61 = .ok (.aload_n 2, 1) := by decide +kernel
theorem dX6_next_62 : decode cX6_next 62 = .ok (.getfield 205, 3) := by decide +kernel
