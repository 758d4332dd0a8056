theorem dX0_init_0 : decode cX0_init 0 = .ok (.aload_n 0, 1) := by decide +kernel
theorem dX0_init_1 : decode cX0_init 1 = .ok (.invokespecial 3, 3) := by decide +kernel
theorem dX0_init_4 : decode cX0_init 4 = .ok (.aload_n 0, 1) := by decide +kernel
theorem dX0_init_5 : decode cX0_init 5 = .ok (.new 9, 3) := by decide +kernel
theorem dX0_init_8 : decode cX0_init 8 = .ok (.dup, 1) := by decide +kernel
theorem dX0_init_9 : decode cX0_init 9 = .ok (.bipush 100, 2) := by decide +kernel
theorem dX0_init_11 : decode cX0_init 11 = .ok (.invokespecial 11, 3) := by decide +kernel
theorem dX0_init_14 : decode cX0_init 14 = .ok (.putfield 14, 3) := by decide +kernel
theorem dX0_init_17 : decode cX0_init 17 = .ok (.aload_n 0, 1) := by decide +kernel
theorem dX0_init_18 : decode cX0_init 18 = .ok (.new 9, 3) := by decide +kernel
theorem dX0_init_21 : decode cX0_init 21 = .ok (.dup, 1) := by decide +kernel
theorem dX0_init_22 : decode cX0_init 22 = .ok (.iconst (-1), 1) := by decide +kernel
theorem dX0_init_23 : decode cX0_init 23 = .ok (.invokespecial 11, 3) := by decide +kernel
theorem dX0_init_26 : decode cX0_init 26 = .ok (.putfield 20, 3) := by decide +kernel
theorem dX0_init_29 : decode cX0_init 29 = .ok (.aload_n 0, 1) := by decide +kernel
theorem dX0_init_30 : decode cX0_init 30 = .ok (.new 9, 3) := by decide +kernel
theorem dX0_init_33 : decode cX0_init 33 = .ok (.dup, 1) := by decide +kernel
theorem dX0_init_34 : decode cX0_init 34 = .ok (.bipush 100, 2) := by decide +kernel
theorem dX0_init_36 : decode cX0_init 36 = .ok (.invokespecial 11, 3) := by decide +kernel
theorem dX0_init_39 : decode cX0_init 39 = .ok (.putfield 23, 3) := by decide +kernel
theorem dX0_init_42 : decode cX0_init 42 = .ok (.aload_n 0, 1) := by decide +kernel
theorem dX0_init_43 : decode cX0_init 43 = .ok (.bipush 45, 2) := by decide +kernel
theorem dX0_init_45 : decode cX0_init 45 = .ok (.putfield 26, 3) := by decide +kernel
theorem dX0_init_48 : decode cX0_init 48 = .ok (.aload_n 0, 1) := by decide +kernel
theorem dX0_init_49 : decode cX0_init 49 = .ok (.iload_n 1, 1) := by decide +kernel
theorem dX0_init_50 : decode cX0_init 50 = .ok (.putfield 30, 3) := by decide +kernel
theorem dX0_init_53 : decode cX0_init 53 = .ok (.aload_n 0, 1) := by decide +kernel
theorem dX0_init_54 : decode cX0_init 54 = .ok (.iload_n 2, 1) := by decide +kernel
theorem dX0_init_55 : decode cX0_init 55 = .ok (.putfield 34, 3) := by decide +kernel
theorem dX0_init_58 : decode cX0_init 58 = .ok (.return_, 1) := by decide +kernel
theorem dX0_shownOf_0 : decode cX0_shownOf 0 = .ok (.aload_n 0, 1) := by decide +kernel
theorem dX0_shownOf_1 : decode cX0_shownOf 1 = .ok (.getfield 20, 3) := by decide +kernel
theorem dX0_shownOf_4 : decode cX0_shownOf 4 = .ok (.iload_n 1, 1) := by decide +kernel
theorem dX0_shownOf_5 : decode cX0_shownOf 5 = .ok (.invokevirtual 37, 3) := by decide +kernel
theorem dX0_shownOf_8 : decode cX0_shownOf 8 = .ok (.istore_n 2, 1) := by decide +kernel
theorem dX0_shownOf_9 : decode cX0_shownOf 9 = .ok (.iload_n 2, 1) := by decide +kernel
theorem dX0_shownOf_10 : decode cX0_shownOf 10 = .ok (.iconst (-1), 1) := by decide +kernel
theorem dX0_shownOf_11 : decode cX0_shownOf 11 = .ok (.if_icmp .ne 14, 3) := by decide +kernel
theorem dX0_shownOf_14 : decode cX0_shownOf 14 = .ok (.aload_n 0, 1) := by decide +kernel
theorem dX0_shownOf_15 : decode cX0_shownOf 15 = .ok (.getfield 14, 3) := by decide +kernel
theorem dX0_shownOf_18 : decode cX0_shownOf 18 = .ok (.iload_n 1, 1) := by decide +kernel
theorem dX0_shownOf_19 : decode cX0_shownOf 19 = .ok (.invokevirtual 37, 3) := by decide +kernel
theorem dX0_shownOf_22 : decode cX0_shownOf 22 = .ok (.goto 4, 3) := by decide +kernel
theorem dX0_shownOf_25 : decode cX0_shownOf 25 = .ok (.iload_n 2, 1) := by decide +kernel
theorem dX0_shownOf_26 : decode cX0_shownOf 26 = .ok (.ireturn, 1) := by decide +kernel
theorem dX0_findWhatIsShown_0 : decode cX0_findWhatIsShown 0 = .ok (.iconst 0, 1) := by decide +kernel
theorem dX0_findWhatIsShown_1 : decode cX0_findWhatIsShown 1 = .ok (.istore_n 1, 1) := by decide +kernel
theorem dX0_findWhatIsShown_2 : decode cX0_findWhatIsShown 2 = .ok (.iload_n 1, 1) := by decide +kernel
theorem dX0_findWhatIsShown_3 : decode cX0_findWhatIsShown 3 = .ok (.iconst 5, 1) := by decide +kernel
theorem dX0_findWhatIsShown_4 : decode cX0_findWhatIsShown 4 = .ok (.if_icmp .ge 22, 3) := by decide +kernel
theorem dX0_findWhatIsShown_7 : decode cX0_findWhatIsShown 7 = .ok (.aload_n 0, 1) := by decide +kernel
theorem dX0_findWhatIsShown_8 : decode cX0_findWhatIsShown 8 = .ok (.getfield 23, 3) := by decide +kernel
theorem dX0_findWhatIsShown_11 : decode cX0_findWhatIsShown 11 = .ok (.iload_n 1, 1) := by decide +kernel
theorem dX0_findWhatIsShown_12 : decode cX0_findWhatIsShown 12 = .ok (.aload_n 0, 1) := by decide +kernel
theorem dX0_findWhatIsShown_13 : decode cX0_findWhatIsShown 13 = .ok (.iload_n 1, 1) := by decide +kernel
theorem dX0_findWhatIsShown_14 : decode cX0_findWhatIsShown 14 = .ok (.invokevirtual 41, 3) := by decide +kernel
theorem dX0_findWhatIsShown_17 : decode cX0_findWhatIsShown 17 = .ok (.invokevirtual 44, 3) := by decide +kernel
theorem dX0_findWhatIsShown_20 : decode cX0_findWhatIsShown 20 = .ok (.iinc 1 1, 3) := by decide +kernel
theorem dX0_findWhatIsShown_23 : decode cX0_findWhatIsShown 23 = .ok (.goto (-21), 3) := by decide +kernel
theorem dX0_findWhatIsShown_26 : decode cX0_findWhatIsShown 26 = .ok (.aload_n 0, 1) := by decide +kernel
theorem dX0_findWhatIsShown_27 : decode cX0_findWhatIsShown 27 = .ok (.iconst 1, 1) := by decide +kernel
theorem dX0_findWhatIsShown_28 : decode cX0_findWhatIsShown 28 = .ok (.putfield 48, 3) := by decide +kernel
theorem dX0_findWhatIsShown_31 : decode cX0_findWhatIsShown 31 = .ok (.return_, 1) := by decide +kernel
theorem dX0_findWhatIs_0 : decode cX0_findWhatIs 0 = .ok (.iconst 0, 1) := by decide +kernel
theorem dX0_findWhatIs_1 : decode cX0_findWhatIs 1 = .ok (.istore_n 1, 1) := by decide +kernel
theorem dX0_findWhatIs_2 : decode cX0_findWhatIs 2 = .ok (.iload_n 1, 1) := by decide +kernel
theorem dX0_findWhatIs_3 : decode cX0_findWhatIs 3 = .ok (.iconst 5, 1) := by decide +kernel
theorem dX0_findWhatIs_4 : decode cX0_findWhatIs 4 = .ok (.if_icmp .ge 25, 3) := by decide +kernel
theorem dX0_findWhatIs_7 : decode cX0_findWhatIs 7 = .ok (.aload_n 0, 1) := by decide +kernel
theorem dX0_findWhatIs_8 : decode cX0_findWhatIs 8 = .ok (.getfield 23, 3) := by decide +kernel
theorem dX0_findWhatIs_11 : decode cX0_findWhatIs 11 = .ok (.iload_n 1, 1) := by decide +kernel
theorem dX0_findWhatIs_12 : decode cX0_findWhatIs 12 = .ok (.aload_n 0, 1) := by decide +kernel
theorem dX0_findWhatIs_13 : decode cX0_findWhatIs 13 = .ok (.getfield 14, 3) := by decide +kernel
theorem dX0_findWhatIs_16 : decode cX0_findWhatIs 16 = .ok (.iload_n 1, 1) := by decide +kernel
theorem dX0_findWhatIs_17 : decode cX0_findWhatIs 17 = .ok (.invokevirtual 37, 3) := by decide +kernel
theorem dX0_findWhatIs_20 : decode cX0_findWhatIs 20 = .ok (.invokevirtual 44, 3) := by decide +kernel
theorem dX0_findWhatIs_23 : decode cX0_findWhatIs 23 = .ok (.iinc 1 1, 3) := by decide +kernel
theorem dX0_findWhatIs_26 : decode cX0_findWhatIs 26 = .ok (.goto (-24), 3) := by decide +kernel
theorem dX0_findWhatIs_29 : decode cX0_findWhatIs 29 = .ok (.aload_n 0, 1) := by decide +kernel
theorem dX0_findWhatIs_30 : decode cX0_findWhatIs 30 = .ok (.iconst 1, 1) := by decide +kernel
theorem dX0_findWhatIs_31 : decode cX0_findWhatIs 31 = .ok (.putfield 48, 3) := by decide +kernel
theorem dX0_findWhatIs_34 : decode cX0_findWhatIs 34 = .ok (.return_, 1) := by decide +kernel
theorem dX0_mayCompete_0 : decode cX0_mayCompete 0 = .ok (.aload_n 0, 1) := by decide +kernel
theorem dX0_mayCompete_1 : decode cX0_mayCompete 1 = .ok (.getfield 26, 3) := by decide +kernel
theorem dX0_mayCompete_4 : decode cX0_mayCompete 4 = .ok (.bipush 110, 2) := by decide +kernel
theorem dX0_mayCompete_6 : decode cX0_mayCompete 6 = .ok (.if_icmp .eq 21, 3) := by decide +kernel
theorem dX0_mayCompete_9 : decode cX0_mayCompete 9 = .ok (.aload_n 0, 1) := by decide +kernel
theorem dX0_mayCompete_10 : decode cX0_mayCompete 10 = .ok (.getfield 26, 3) := by decide +kernel
theorem dX0_mayCompete_13 : decode cX0_mayCompete 13 = .ok (.bipush 99, 2) := by decide +kernel
theorem dX0_mayCompete_15 : decode cX0_mayCompete 15 = .ok (.if_icmp .eq 12, 3) := by decide +kernel
theorem dX0_mayCompete_18 : decode cX0_mayCompete 18 = .ok (.aload_n 0, 1) := by decide +kernel
theorem dX0_mayCompete_19 : decode cX0_mayCompete 19 = .ok (.getfield 26, 3) := by decide +kernel
theorem dX0_mayCompete_22 : decode cX0_mayCompete 22 = .ok (.bipush 114, 2) := by decide +kernel
theorem dX0_mayCompete_24 : decode cX0_mayCompete 24 = .ok (.if_icmp .ne 7, 3) := by decide +kernel
theorem dX0_mayCompete_27 : decode cX0_mayCompete 27 = .ok (.iconst 1, 1) := by decide +kernel
theorem dX0_mayCompete_28 : decode cX0_mayCompete 28 = .ok (.goto 4, 3) := by decide +kernel
theorem dX0_mayCompete_31 : decode cX0_mayCompete 31 = .ok (.iconst 0, 1) := by decide +kernel
theorem dX0_mayCompete_32 : decode cX0_mayCompete 32 = .ok (.ireturn, 1) := by decide +kernel
theorem dX0_waits_0 : decode cX0_waits 0 = .ok (.aload_n 0, 1) := by decide +kernel
theorem dX0_waits_1 : decode cX0_waits 1 = .ok (.getfield 26, 3) := by decide +kernel
theorem dX0_waits_4 : decode cX0_waits 4 = .ok (.bipush 120, 2) := by decide +kernel
theorem dX0_waits_6 : decode cX0_waits 6 = .ok (.if_icmp .eq 12, 3) := by decide +kernel
theorem dX0_waits_9 : decode cX0_waits 9 = .ok (.aload_n 0, 1) := by decide +kernel
theorem dX0_waits_10 : decode cX0_waits 10 = .ok (.getfield 26, 3) := by decide +kernel
theorem dX0_waits_13 : decode cX0_waits 13 = .ok (.bipush 114, 2) := by decide +kernel
theorem dX0_waits_15 : decode cX0_waits 15 = .ok (.if_icmp .ne 7, 3) := by decide +kernel
theorem dX0_waits_18 : decode cX0_waits 18 = .ok (.iconst 1, 1) := by decide +kernel
theorem dX0_waits_19 : decode cX0_waits 19 = .ok (.goto 4, 3) := by decide +kernel
theorem dX0_waits_22 : decode cX0_waits 22 = .ok (.iconst 0, 1) := by decide +kernel
theorem dX0_waits_23 : decode cX0_waits 23 = .ok (.ireturn, 1) := by decide +kernel
theorem dX0_pointsByNow_0 : decode cX0_pointsByNow 0 = .ok (.aload_n 0, 1) := by decide +kernel
theorem dX0_pointsByNow_1 : decode cX0_pointsByNow 1 = .ok (.getfield 52, 3) := by decide +kernel
theorem dX0_pointsByNow_4 : decode cX0_pointsByNow 4 = .ok (.ifnonnull 7, 3) := by decide +kernel
theorem dX0_pointsByNow_7 : decode cX0_pointsByNow 7 = .ok (.iconst 0, 1) := by decide +kernel
theorem dX0_pointsByNow_8 : decode cX0_pointsByNow 8 = .ok (.goto 12, 3) := by decide +kernel
theorem dX0_pointsByNow_11 : decode cX0_pointsByNow 11 = .ok (.aload_n 0, 1) := by decide +kernel
theorem dX0_pointsByNow_12 : decode cX0_pointsByNow 12 = .ok (.getfield 52, 3) := by decide +kernel
theorem dX0_pointsByNow_15 : decode cX0_pointsByNow 15 = .ok (.getfield 56, 3) := by decide +kernel
theorem dX0_pointsByNow_18 : decode cX0_pointsByNow 18 = .ok (.iconst 1, 1) := by decide +kernel
theorem dX0_pointsByNow_19 : decode cX0_pointsByNow 19 = .ok (.iadd, 1) := by decide +kernel
theorem dX0_pointsByNow_20 : decode cX0_pointsByNow 20 = .ok (.ireturn, 1) := by decide +kernel
theorem dX0_isInOrder_0 : decode cX0_isInOrder 0 = .ok (.aload_n 0, 1) := by decide +kernel
theorem dX0_isInOrder_1 : decode cX0_isInOrder 1 = .ok (.getfield 26, 3) := by decide +kernel
theorem dX0_isInOrder_4 : decode cX0_isInOrder 4 = .ok (.bipush 99, 2) := by decide +kernel
theorem dX0_isInOrder_6 : decode cX0_isInOrder 6 = .ok (.if_icmp .ne 26, 3) := by decide +kernel
theorem dX0_isInOrder_9 : decode cX0_isInOrder 9 = .ok (.aload_n 0, 1) := by decide +kernel
theorem dX0_isInOrder_10 : decode cX0_isInOrder 10 = .ok (.getfield 52, 3) := by decide +kernel
theorem dX0_isInOrder_13 : decode cX0_isInOrder 13 = .ok (.ifnull 17, 3) := by decide +kernel
theorem dX0_isInOrder_16 : decode cX0_isInOrder 16 = .ok (.aload_n 0, 1) := by decide +kernel
theorem dX0_isInOrder_17 : decode cX0_isInOrder 17 = .ok (.getfield 52, 3) := by decide +kernel
theorem dX0_isInOrder_20 : decode cX0_isInOrder 20 = .ok (.aload_n 0, 1) := by decide +kernel
theorem dX0_isInOrder_21 : decode cX0_isInOrder 21 = .ok (.getfield 23, 3) := by decide +kernel
theorem dX0_isInOrder_24 : decode cX0_isInOrder 24 = .ok (.invokevirtual 59, 3) := by decide +kernel
theorem dX0_isInOrder_27 : decode cX0_isInOrder 27 = .ok (.ifCond .ne 5, 3) := by decide +kernel
theorem dX0_isInOrder_30 : decode cX0_isInOrder 30 = .ok (.iconst 0, 1) := by decide +kernel
theorem dX0_isInOrder_31 : decode cX0_isInOrder 31 = .ok (.ireturn, 1) := by decide +kernel
theorem dX0_isInOrder_32 : decode cX0_isInOrder 32 = .ok (.aload_n 0, 1) := by decide +kernel
theorem dX0_isInOrder_33 : decode cX0_isInOrder 33 = .ok (.getfield 63, 3) := by decide +kernel
theorem dX0_isInOrder_36 : decode cX0_isInOrder 36 = .ok (.ifCond .eq 21, 3) := by decide +kernel
theorem dX0_isInOrder_39 : decode cX0_isInOrder 39 = .ok (.aload_n 0, 1) := by decide +kernel
theorem dX0_isInOrder_40 : decode cX0_isInOrder 40 = .ok (.getfield 26, 3) := by decide +kernel
theorem dX0_isInOrder_43 : decode cX0_isInOrder 43 = .ok (.bipush 120, 2) := by decide +kernel
theorem dX0_isInOrder_45 : decode cX0_isInOrder 45 = .ok (.if_icmp .eq 10, 3) := by decide +kernel
theorem dX0_isInOrder_48 : decode cX0_isInOrder 48 = .ok (.aload_n 0, 1) := by decide +kernel
theorem dX0_isInOrder_49 : decode cX0_isInOrder 49 = .ok (.getfield 52, 3) := by decide +kernel
theorem dX0_isInOrder_52 : decode cX0_isInOrder 52 = .ok (.ifnonnull 5, 3) := by decide +kernel
theorem dX0_isInOrder_55 : decode cX0_isInOrder 55 = .ok (.iconst 0, 1) := by decide +kernel
theorem dX0_isInOrder_56 : decode cX0_isInOrder 56 = .ok (.ireturn, 1) := by decide +kernel
theorem dX0_isInOrder_57 : decode cX0_isInOrder 57 = .ok (.aload_n 0, 1) := by decide +kernel
theorem dX0_isInOrder_58 : decode cX0_isInOrder 58 = .ok (.getfield 52, 3) := by decide +kernel
theorem dX0_isInOrder_61 : decode cX0_isInOrder 61 = .ok (.ifnull 10, 3) := by decide +kernel
theorem dX0_isInOrder_64 : decode cX0_isInOrder 64 = .ok (.aload_n 0, 1) := by decide +kernel
theorem dX0_isInOrder_65 : decode cX0_isInOrder 65 = .ok (.invokevirtual 66, 3) := by decide +kernel
theorem dX0_isInOrder_68 : decode cX0_isInOrder 68 = .ok (.ifCond .eq 7, 3) := by decide +kernel
theorem dX0_isInOrder_71 : decode cX0_isInOrder 71 = .ok (.iconst 1, 1) := by decide +kernel
theorem dX0_isInOrder_72 : decode cX0_isInOrder 72 = .ok (.goto 4, 3) := by decide +kernel
theorem dX0_isInOrder_75 : decode cX0_isInOrder 75 = .ok (.iconst 0, 1) := by decide +kernel
theorem dX0_isInOrder_76 : decode cX0_isInOrder 76 = .ok (.ireturn, 1) := by decide +kernel
theorem dX1_init_0 : decode cX1_init 0 = .ok (.aload_n 0, 1) := by decide +kernel
theorem dX1_init_1 : decode cX1_init 1 = .ok (.invokespecial 1, 3) := by decide +kernel
theorem dX1_init_4 : decode cX1_init 4 = .ok (.aload_n 0, 1) := by decide +kernel
theorem dX1_init_5 : decode cX1_init 5 = .ok (.iload_n 1, 1) := by decide +kernel
theorem dX1_init_6 : decode cX1_init 6 = .ok (.putfield 7, 3) := by decide +kernel
theorem dX1_init_9 : decode cX1_init 9 = .ok (.return_, 1) := by decide +kernel
theorem dX2_init_0 : decode cX2_init 0 = .ok (.aload_n 0, 1) := by decide +kernel
theorem dX2_init_1 : decode cX2_init 1 = .ok (.invokespecial 3, 3) := by decide +kernel
theorem dX2_init_4 : decode cX2_init 4 = .ok (.aload_n 0, 1) := by decide +kernel
theorem dX2_init_5 : decode cX2_init 5 = .ok (.iconst (-1), 1) := by decide +kernel
theorem dX2_init_6 : decode cX2_init 6 = .ok (.putfield 9, 3) := by decide +kernel
theorem dX2_init_9 : decode cX2_init 9 = .ok (.aload_n 0, 1) := by decide +kernel
theorem dX2_init_10 : decode cX2_init 10 = .ok (.aload_n 1, 1) := by decide +kernel
theorem dX2_init_11 : decode cX2_init 11 = .ok (.putfield 15, 3) := by decide +kernel
theorem dX2_init_14 : decode cX2_init 14 = .ok (.aload_n 0, 1) := by decide +kernel
theorem dX2_init_15 : decode cX2_init 15 = .ok (.aload_n 2, 1) := by decide +kernel
theorem dX2_init_16 : decode cX2_init 16 = .ok (.putfield 19, 3) := by decide +kernel
theorem dX2_init_19 : decode cX2_init 19 = .ok (.return_, 1) := by decide +kernel
theorem dX2_hasTime_0 : decode cX2_hasTime 0 = .ok (.aload_n 0, 1) := by decide +kernel
theorem dX2_hasTime_1 : decode cX2_hasTime 1 = .ok (.getfield 9, 3) := by decide +kernel
theorem dX2_hasTime_4 : decode cX2_hasTime 4 = .ok (.iconst (-1), 1) := by decide +kernel
theorem dX2_hasTime_5 : decode cX2_hasTime 5 = .ok (.if_icmp .eq 7, 3) := by decide +kernel
theorem dX2_hasTime_8 : decode cX2_hasTime 8 = .ok (.iconst 1, 1) := by decide +kernel
theorem dX2_hasTime_9 : decode cX2_hasTime 9 = .ok (.goto 4, 3) := by decide +kernel
theorem dX2_hasTime_12 : decode cX2_hasTime 12 = .ok (.iconst 0, 1) := by decide +kernel
theorem dX2_hasTime_13 : decode cX2_hasTime 13 = .ok (.ireturn, 1) := by decide +kernel
theorem dX2_fall_0 : decode cX2_fall 0 = .ok (.aload_n 0, 1) := by decide +kernel
theorem dX2_fall_1 : decode cX2_fall 1 = .ok (.iconst 1, 1) := by decide +kernel
theorem dX2_fall_2 : decode cX2_fall 2 = .ok (.putfield 23, 3) := by decide +kernel
theorem dX2_fall_5 : decode cX2_fall 5 = .ok (.aload_n 0, 1) := by decide +kernel
theorem dX2_fall_6 : decode cX2_fall 6 = .ok (.iconst (-1), 1) := by decide +kernel
theorem dX2_fall_7 : decode cX2_fall 7 = .ok (.putfield 9, 3) := by decide +kernel
theorem dX2_fall_10 : decode cX2_fall 10 = .ok (.return_, 1) := by decide +kernel
theorem dX2_isAheadOf_0 : decode cX2_isAheadOf 0 = .ok (.aload_n 0, 1) := by decide +kernel
theorem dX2_isAheadOf_1 : decode cX2_isAheadOf 1 = .ok (.getfield 9, 3) := by decide +kernel
theorem dX2_isAheadOf_4 : decode cX2_isAheadOf 4 = .ok (.aload_n 1, 1) := by decide +kernel
theorem dX2_isAheadOf_5 : decode cX2_isAheadOf 5 = .ok (.getfield 9, 3) := by decide +kernel
theorem dX2_isAheadOf_8 : decode cX2_isAheadOf 8 = .ok (.if_icmp .lt 31, 3) := by decide +kernel
theorem dX2_isAheadOf_11 : decode cX2_isAheadOf 11 = .ok (.aload_n 0, 1) := by decide +kernel
theorem dX2_isAheadOf_12 : decode cX2_isAheadOf 12 = .ok (.getfield 9, 3) := by decide +kernel
theorem dX2_isAheadOf_15 : decode cX2_isAheadOf 15 = .ok (.aload_n 1, 1) := by decide +kernel
theorem dX2_isAheadOf_16 : decode cX2_isAheadOf 16 = .ok (.getfield 9, 3) := by decide +kernel
theorem dX2_isAheadOf_19 : decode cX2_isAheadOf 19 = .ok (.if_icmp .ne 24, 3) := by decide +kernel
theorem dX2_isAheadOf_22 : decode cX2_isAheadOf 22 = .ok (.aload_n 0, 1) := by decide +kernel
theorem dX2_isAheadOf_23 : decode cX2_isAheadOf 23 = .ok (.getfield 15, 3) := by decide +kernel
theorem dX2_isAheadOf_26 : decode cX2_isAheadOf 26 = .ok (.getfield 27, 3) := by decide +kernel
theorem dX2_isAheadOf_29 : decode cX2_isAheadOf 29 = .ok (.aload_n 1, 1) := by decide +kernel
theorem dX2_isAheadOf_30 : decode cX2_isAheadOf 30 = .ok (.getfield 15, 3) := by decide +kernel
theorem dX2_isAheadOf_33 : decode cX2_isAheadOf 33 = .ok (.getfield 27, 3) := by decide +kernel
theorem dX2_isAheadOf_36 : decode cX2_isAheadOf 36 = .ok (.if_icmp .ge 7, 3) := by decide +kernel
theorem dX2_isAheadOf_39 : decode cX2_isAheadOf 39 = .ok (.iconst 1, 1) := by decide +kernel
theorem dX2_isAheadOf_40 : decode cX2_isAheadOf 40 = .ok (.goto 4, 3) := by decide +kernel
theorem dX2_isAheadOf_43 : decode cX2_isAheadOf 43 = .ok (.iconst 0, 1) := by decide +kernel
theorem dX2_isAheadOf_44 : decode cX2_isAheadOf 44 = .ok (.ireturn, 1) := by decide +kernel
theorem dX3_init_0 : decode cX3_init 0 = .ok (.aload_n 0, 1) := by decide +kernel
theorem dX3_init_1 : decode cX3_init 1 = .ok (.invokespecial 3, 3) := by decide +kernel
theorem dX3_init_4 : decode cX3_init 4 = .ok (.aload_n 0, 1) := by decide +kernel
theorem dX3_init_5 : decode cX3_init 5 = .ok (.bipush 8, 2) := by decide +kernel
theorem dX3_init_7 : decode cX3_init 7 = .ok (.newarray .int, 2) := by decide +kernel
theorem dX3_init_9 : decode cX3_init 9 = .ok (.putfield 9, 3) := by decide +kernel
theorem dX3_init_12 : decode cX3_init 12 = .ok (.aload_n 0, 1) := by decide +kernel
theorem dX3_init_13 : decode cX3_init 13 = .ok (.bipush 16, 2) := by decide +kernel
theorem dX3_init_15 : decode cX3_init 15 = .ok (.anewarray 15, 3) := by decide +kernel
theorem dX3_init_18 : decode cX3_init 18 = .ok (.putfield 17, 3) := by decide +kernel
theorem dX3_init_21 : decode cX3_init 21 = .ok (.aload_n 0, 1) := by decide +kernel
theorem dX3_init_22 : decode cX3_init 22 = .ok (.iload_n 1, 1) := by decide +kernel
theorem dX3_init_23 : decode cX3_init 23 = .ok (.putfield 21, 3) := by decide +kernel
theorem dX3_init_26 : decode cX3_init 26 = .ok (.iconst 0, 1) := by decide +kernel
theorem dX3_init_27 : decode cX3_init 27 = .ok (.istore_n 2, 1) := by decide +kernel
theorem dX3_init_28 : decode cX3_init 28 = .ok (.iload_n 2, 1) := by decide +kernel
theorem dX3_init_29 : decode cX3_init 29 = .ok (.aload_n 0, 1) := by decide +kernel
theorem dX3_init_30 : decode cX3_init 30 = .ok (.getfield 9, 3) := by decide +kernel
theorem dX3_init_33 : decode cX3_init 33 = .ok (.arraylength, 1) := by decide +kernel
theorem dX3_init_34 : decode cX3_init 34 = .ok (.if_icmp .ge 17, 3) := by decide +kernel
theorem dX3_init_37 : decode cX3_init 37 = .ok (.aload_n 0, 1) := by decide +kernel
theorem dX3_init_38 : decode cX3_init 38 = .ok (.getfield 9, 3) := by decide +kernel
theorem dX3_init_41 : decode cX3_init 41 = .ok (.iload_n 2, 1) := by decide +kernel
theorem dX3_init_42 : decode cX3_init 42 = .ok (.bipush 100, 2) := by decide +kernel
theorem dX3_init_44 : decode cX3_init 44 = .ok (.iastore, 1) := by decide +kernel
theorem dX3_init_45 : decode cX3_init 45 = .ok (.iinc 2 1, 3) := by decide +kernel
theorem dX3_init_48 : decode cX3_init 48 = .ok (.goto (-20), 3) := by decide +kernel
theorem dX3_init_51 : decode cX3_init 51 = .ok (.return_, 1) := by decide +kernel
theorem dX3_isFor_0 : decode cX3_isFor 0 = .ok (.iload_n 1, 1) := by decide +kernel
theorem dX3_isFor_1 : decode cX3_isFor 1 = .ok (.ifCond .lt 24, 3) := by decide +kernel
theorem dX3_isFor_4 : decode cX3_isFor 4 = .ok (.iload_n 1, 1) := by decide +kernel
theorem dX3_isFor_5 : decode cX3_isFor 5 = .ok (.bipush 8, 2) := by decide +kernel
theorem dX3_isFor_7 : decode cX3_isFor 7 = .ok (.if_icmp .ge 18, 3) := by decide +kernel
theorem dX3_isFor_10 : decode cX3_isFor 10 = .ok (.aload_n 0, 1) := by decide +kernel
theorem dX3_isFor_11 : decode cX3_isFor 11 = .ok (.getfield 21, 3) := by decide +kernel
theorem dX3_isFor_14 : decode cX3_isFor 14 = .ok (.iload_n 1, 1) := by decide +kernel
theorem dX3_isFor_15 : decode cX3_isFor 15 = .ok (.invokestatic 25, 3) := by decide +kernel
theorem dX3_isFor_18 : decode cX3_isFor 18 = .ok (.ifCond .eq 7, 3) := by decide +kernel
theorem dX3_isFor_21 : decode cX3_isFor 21 = .ok (.iconst 1, 1) := by decide +kernel
theorem dX3_isFor_22 : decode cX3_isFor 22 = .ok (.goto 4, 3) := by decide +kernel
theorem dX3_isFor_25 : decode cX3_isFor 25 = .ok (.iconst 0, 1) := by decide +kernel
theorem dX3_isFor_26 : decode cX3_isFor 26 = .ok (.ireturn, 1) := by decide +kernel
theorem dX3_factorOf_0 : decode cX3_factorOf 0 = .ok (.iload_n 1, 1) := by decide +kernel
theorem dX3_factorOf_1 : decode cX3_factorOf 1 = .ok (.ifCond .lt 21, 3) := by decide +kernel
theorem dX3_factorOf_4 : decode cX3_factorOf 4 = .ok (.iload_n 1, 1) := by decide +kernel
theorem dX3_factorOf_5 : decode cX3_factorOf 5 = .ok (.aload_n 0, 1) := by decide +kernel
theorem dX3_factorOf_6 : decode cX3_factorOf 6 = .ok (.getfield 9, 3) := by decide +kernel
theorem dX3_factorOf_9 : decode cX3_factorOf 9 = .ok (.arraylength, 1) := by decide +kernel
theorem dX3_factorOf_10 : decode cX3_factorOf 10 = .ok (.if_icmp .ge 12, 3) := by decide +kernel
theorem dX3_factorOf_13 : decode cX3_factorOf 13 = .ok (.aload_n 0, 1) := by decide +kernel
theorem dX3_factorOf_14 : decode cX3_factorOf 14 = .ok (.getfield 9, 3) := by decide +kernel
theorem dX3_factorOf_17 : decode cX3_factorOf 17 = .ok (.iload_n 1, 1) := by decide +kernel
theorem dX3_factorOf_18 : decode cX3_factorOf 18 = .ok (.iaload, 1) := by decide +kernel
theorem dX3_factorOf_19 : decode cX3_factorOf 19 = .ok (.goto 5, 3) := by decide +kernel
theorem dX3_factorOf_22 : decode cX3_factorOf 22 = .ok (.bipush 100, 2) := by decide +kernel
theorem dX3_factorOf_24 : decode cX3_factorOf 24 = .ok (.ireturn, 1) := by decide +kernel
theorem dX3_tellFactor_0 : decode cX3_tellFactor 0 = .ok (.iload_n 1, 1) := by decide +kernel
theorem dX3_tellFactor_1 : decode cX3_tellFactor 1 = .ok (.ifCond .lt 19, 3) := by decide +kernel
theorem dX3_tellFactor_4 : decode cX3_tellFactor 4 = .ok (.iload_n 1, 1) := by decide +kernel
theorem dX3_tellFactor_5 : decode cX3_tellFactor 5 = .ok (.aload_n 0, 1) := by decide +kernel
theorem dX3_tellFactor_6 : decode cX3_tellFactor 6 = .ok (.getfield 9, 3) := by decide +kernel
theorem dX3_tellFactor_9 : decode cX3_tellFactor 9 = .ok (.arraylength, 1) := by decide +kernel
theorem dX3_tellFactor_10 : decode cX3_tellFactor 10 = .ok (.if_icmp .ge 10, 3) := by decide +kernel
theorem dX3_tellFactor_13 : decode cX3_tellFactor 13 = .ok (.aload_n 0, 1) := by decide +kernel
theorem dX3_tellFactor_14 : decode cX3_tellFactor 14 = .ok (.getfield 9, 3) := by decide +kernel
theorem dX3_tellFactor_17 : decode cX3_tellFactor 17 = .ok (.iload_n 1, 1) := by decide +kernel
theorem dX3_tellFactor_18 : decode cX3_tellFactor 18 = .ok (.iload_n 2, 1) := by decide +kernel
theorem dX3_tellFactor_19 : decode cX3_tellFactor 19 = .ok (.iastore, 1) := by decide +kernel
theorem dX3_tellFactor_20 : decode cX3_tellFactor 20 = .ok (.return_, 1) := by decide +kernel
theorem dX3_entryOf_0 : decode cX3_entryOf 0 = .ok (.aload_n 1, 1) := by decide +kernel
theorem dX3_entryOf_1 : decode cX3_entryOf 1 = .ok (.getfield 29, 3) := by decide +kernel
theorem dX3_entryOf_4 : decode cX3_entryOf 4 = .ok (.istore_n 2, 1) := by decide +kernel
theorem dX3_entryOf_5 : decode cX3_entryOf 5 = .ok (.iload_n 2, 1) := by decide +kernel
theorem dX3_entryOf_6 : decode cX3_entryOf 6 = .ok (.ifCond .lt 21, 3) := by decide +kernel
theorem dX3_entryOf_9 : decode cX3_entryOf 9 = .ok (.iload_n 2, 1) := by decide +kernel
theorem dX3_entryOf_10 : decode cX3_entryOf 10 = .ok (.aload_n 0, 1) := by decide +kernel
theorem dX3_entryOf_11 : decode cX3_entryOf 11 = .ok (.getfield 17, 3) := by decide +kernel
theorem dX3_entryOf_14 : decode cX3_entryOf 14 = .ok (.arraylength, 1) := by decide +kernel
theorem dX3_entryOf_15 : decode cX3_entryOf 15 = .ok (.if_icmp .ge 12, 3) := by decide +kernel
theorem dX3_entryOf_18 : decode cX3_entryOf 18 = .ok (.aload_n 0, 1) := by decide +kernel
theorem dX3_entryOf_19 : decode cX3_entryOf 19 = .ok (.getfield 17, 3) := by decide +kernel
theorem dX3_entryOf_22 : decode cX3_entryOf 22 = .ok (.iload_n 2, 1) := by decide +kernel
theorem dX3_entryOf_23 : decode cX3_entryOf 23 = .ok (.aaload, 1) := by decide +kernel
theorem dX3_entryOf_24 : decode cX3_entryOf 24 = .ok (.goto 4, 3) := by decide +kernel
theorem dX3_entryOf_27 : decode cX3_entryOf 27 = .ok (.aconst_null, 1) := by decide +kernel
theorem dX3_entryOf_28 : decode cX3_entryOf 28 = .ok (.areturn, 1) := by decide +kernel
theorem dX3_add_0 : decode cX3_add 0 = .ok (.aload_n 1, 1) := by decide +kernel
theorem dX3_add_1 : decode cX3_add 1 = .ok (.getfield 34, 3) := by decide +kernel
theorem dX3_add_4 : decode cX3_add 4 = .ok (.getfield 29, 3) := by decide +kernel
theorem dX3_add_7 : decode cX3_add 7 = .ok (.istore_n 2, 1) := by decide +kernel
theorem dX3_add_8 : decode cX3_add 8 = .ok (.iload_n 2, 1) := by decide +kernel
theorem dX3_add_9 : decode cX3_add 9 = .ok (.ifCond .lt 19, 3) := by decide +kernel
theorem dX3_add_12 : decode cX3_add 12 = .ok (.iload_n 2, 1) := by decide +kernel
theorem dX3_add_13 : decode cX3_add 13 = .ok (.aload_n 0, 1) := by decide +kernel
theorem dX3_add_14 : decode cX3_add 14 = .ok (.getfield 17, 3) := by decide +kernel
theorem dX3_add_17 : decode cX3_add 17 = .ok (.arraylength, 1) := by decide +kernel
theorem dX3_add_18 : decode cX3_add 18 = .ok (.if_icmp .ge 10, 3) := by decide +kernel
theorem dX3_add_21 : decode cX3_add 21 = .ok (.aload_n 0, 1) := by decide +kernel
theorem dX3_add_22 : decode cX3_add 22 = .ok (.getfield 17, 3) := by decide +kernel
theorem dX3_add_25 : decode cX3_add 25 = .ok (.iload_n 2, 1) := by decide +kernel
theorem dX3_add_26 : decode cX3_add 26 = .ok (.aload_n 1, 1) := by decide +kernel
theorem dX3_add_27 : decode cX3_add 27 = .ok (.aastore, 1) := by decide +kernel
theorem dX3_add_28 : decode cX3_add 28 = .ok (.return_, 1) := by decide +kernel
theorem dX3_countEntries_0 : decode cX3_countEntries 0 = .ok (.iconst 0, 1) := by decide +kernel
theorem dX3_countEntries_1 : decode cX3_countEntries 1 = .ok (.istore_n 1, 1) := by decide +kernel
theorem dX3_countEntries_2 : decode cX3_countEntries 2 = .ok (.iconst 0, 1) := by decide +kernel
theorem dX3_countEntries_3 : decode cX3_countEntries 3 = .ok (.istore_n 2, 1) := by decide +kernel
theorem dX3_countEntries_4 : decode cX3_countEntries 4 = .ok (.iload_n 2, 1) := by decide +kernel
theorem dX3_countEntries_5 : decode cX3_countEntries 5 = .ok (.aload_n 0, 1) := by decide +kernel
theorem dX3_countEntries_6 : decode cX3_countEntries 6 = .ok (.getfield 17, 3) := by decide +kernel
theorem dX3_countEntries_9 : decode cX3_countEntries 9 = .ok (.arraylength, 1) := by decide +kernel
theorem dX3_countEntries_10 : decode cX3_countEntries 10 = .ok (.if_icmp .ge 21, 3) := by decide +kernel
theorem dX3_countEntries_13 : decode cX3_countEntries 13 = .ok (.aload_n 0, 1) := by decide +kernel
theorem dX3_countEntries_14 : decode cX3_countEntries 14 = .ok (.getfield 17, 3) := by decide +kernel
theorem dX3_countEntries_17 : decode cX3_countEntries 17 = .ok (.iload_n 2, 1) := by decide +kernel
theorem dX3_countEntries_18 : decode cX3_countEntries 18 = .ok (.aaload, 1) := by decide +kernel
theorem dX3_countEntries_19 : decode cX3_countEntries 19 = .ok (.ifnull 6, 3) := by decide +kernel
theorem dX3_countEntries_22 : decode cX3_countEntries 22 = .ok (.iinc 1 1, 3) := by decide +kernel
theorem dX3_countEntries_25 : decode cX3_countEntries 25 = .ok (.iinc 2 1, 3) := by decide +kernel
theorem dX3_countEntries_28 : decode cX3_countEntries 28 = .ok (.goto (-24), 3) := by decide +kernel
theorem dX3_countEntries_31 : decode cX3_countEntries 31 = .ok (.iload_n 1, 1) := by decide +kernel
theorem dX3_countEntries_32 : decode cX3_countEntries 32 = .ok (.ireturn, 1) := by decide +kernel
theorem dX3_countNotFallen_0 : decode cX3_countNotFallen 0 = .ok (.iconst 0, 1) := by decide +kernel
theorem dX3_countNotFallen_1 : decode cX3_countNotFallen 1 = .ok (.istore_n 1, 1) := by decide +kernel
theorem dX3_countNotFallen_2 : decode cX3_countNotFallen 2 = .ok (.iconst 0, 1) := by decide +kernel
theorem dX3_countNotFallen_3 : decode cX3_countNotFallen 3 = .ok (.istore_n 2, 1) := by decide +kernel
theorem dX3_countNotFallen_4 : decode cX3_countNotFallen 4 = .ok (.iload_n 2, 1) := by decide +kernel
theorem dX3_countNotFallen_5 : decode cX3_countNotFallen 5 = .ok (.aload_n 0, 1) := by decide +kernel
theorem dX3_countNotFallen_6 : decode cX3_countNotFallen 6 = .ok (.getfield 17, 3) := by decide +kernel
theorem dX3_countNotFallen_9 : decode cX3_countNotFallen 9 = .ok (.arraylength, 1) := by decide +kernel
theorem dX3_countNotFallen_10 : decode cX3_countNotFallen 10 = .ok (.if_icmp .ge 30, 3) := by decide +kernel
theorem dX3_countNotFallen_13 : decode cX3_countNotFallen 13 = .ok (.aload_n 0, 1) := by decide +kernel
theorem dX3_countNotFallen_14 : decode cX3_countNotFallen 14 = .ok (.getfield 17, 3) := by decide +kernel
theorem dX3_countNotFallen_17 : decode cX3_countNotFallen 17 = .ok (.iload_n 2, 1) := by decide +kernel
theorem dX3_countNotFallen_18 : decode cX3_countNotFallen 18 = .ok (.aaload, 1) := by decide +kernel
theorem dX3_countNotFallen_19 : decode cX3_countNotFallen 19 = .ok (.astore_n 3, 1) := by decide +kernel
theorem dX3_countNotFallen_20 : decode cX3_countNotFallen 20 = .ok (.aload_n 3, 1) := by decide +kernel
theorem dX3_countNotFallen_21 : decode cX3_countNotFallen 21 = .ok (.ifnull 13, 3) := by decide +kernel
theorem dX3_countNotFallen_24 : decode cX3_countNotFallen 24 = .ok (.aload_n 3, 1) := by decide +kernel
theorem dX3_countNotFallen_25 : decode cX3_countNotFallen 25 = .ok (.getfield 38, 3) := by decide +kernel
theorem dX3_countNotFallen_28 : decode cX3_countNotFallen 28 = .ok (.ifCond .ne 6, 3) := by decide +kernel
theorem dX3_countNotFallen_31 : decode cX3_countNotFallen 31 = .ok (.iinc 1 1, 3) := by decide +kernel
theorem dX3_countNotFallen_34 : decode cX3_countNotFallen 34 = .ok (.iinc 2 1, 3) := by decide +kernel
theorem dX3_countNotFallen_37 : decode cX3_countNotFallen 37 = .ok (.goto (-33), 3) := by decide +kernel
theorem dX3_countNotFallen_40 : decode cX3_countNotFallen 40 = .ok (.iload_n 1, 1) := by decide +kernel
theorem dX3_countNotFallen_41 : decode cX3_countNotFallen 41 = .ok (.ireturn, 1) := by decide +kernel
theorem dX3_countLandsNotFallen_0 : decode cX3_countLandsNotFallen 0 = .ok (.iconst 0, 1) := by decide +kernel
theorem dX3_countLandsNotFallen_1 : decode cX3_countLandsNotFallen 1 = .ok (.istore_n 1, 1) := by decide +kernel
theorem dX3_countLandsNotFallen_2 : decode cX3_countLandsNotFallen 2 = .ok (.iconst 0, 1) := by decide +kernel
theorem dX3_countLandsNotFallen_3 : decode cX3_countLandsNotFallen 3 = .ok (.istore_n 2, 1) := by decide +kernel
theorem dX3_countLandsNotFallen_4 : decode cX3_countLandsNotFallen 4 = .ok (.iload_n 2, 1) := by decide +kernel
theorem dX3_countLandsNotFallen_5 : decode cX3_countLandsNotFallen 5 = .ok (.aload_n 0, 1) := by decide +kernel
theorem dX3_countLandsNotFallen_6 : decode cX3_countLandsNotFallen 6 = .ok (.getfield 17, 3) := by decide +kernel
theorem dX3_countLandsNotFallen_9 : decode cX3_countLandsNotFallen 9 = .ok (.arraylength, 1) := by decide +kernel
theorem dX3_countLandsNotFallen_10 : decode cX3_countLandsNotFallen 10 = .ok (.if_icmp .ge 39, 3) := by decide +kernel
theorem dX3_countLandsNotFallen_13 : decode cX3_countLandsNotFallen 13 = .ok (.aload_n 0, 1) := by decide +kernel
theorem dX3_countLandsNotFallen_14 : decode cX3_countLandsNotFallen 14 = .ok (.getfield 17, 3) := by decide +kernel
theorem dX3_countLandsNotFallen_17 : decode cX3_countLandsNotFallen 17 = .ok (.iload_n 2, 1) := by decide +kernel
theorem dX3_countLandsNotFallen_18 : decode cX3_countLandsNotFallen 18 = .ok (.aaload, 1) := by decide +kernel
theorem dX3_countLandsNotFallen_19 : decode cX3_countLandsNotFallen 19 = .ok (.astore_n 3, 1) := by decide +kernel
theorem dX3_countLandsNotFallen_20 : decode cX3_countLandsNotFallen 20 = .ok (.aload_n 3, 1) := by decide +kernel
theorem dX3_countLandsNotFallen_21 : decode cX3_countLandsNotFallen 21 = .ok (.ifnull 22, 3) := by decide +kernel
theorem dX3_countLandsNotFallen_24 : decode cX3_countLandsNotFallen 24 = .ok (.aload_n 3, 1) := by decide +kernel
theorem dX3_countLandsNotFallen_25 : decode cX3_countLandsNotFallen 25 = .ok (.getfield 38, 3) := by decide +kernel
theorem dX3_countLandsNotFallen_28 : decode cX3_countLandsNotFallen 28 = .ok (.ifCond .ne 15, 3) := by decide +kernel
theorem dX3_countLandsNotFallen_31 : decode cX3_countLandsNotFallen 31 = .ok (.iload_n 1, 1) := by decide +kernel
theorem dX3_countLandsNotFallen_32 : decode cX3_countLandsNotFallen 32 = .ok (.iconst 1, 1) := by decide +kernel
theorem dX3_countLandsNotFallen_33 : decode cX3_countLandsNotFallen 33 = .ok (.aload_n 3, 1) := by decide +kernel
theorem dX3_countLandsNotFallen_34 : decode cX3_countLandsNotFallen 34 = .ok (.getfield 34, 3) := by decide +kernel
theorem dX3_countLandsNotFallen_37 : decode cX3_countLandsNotFallen 37 = .ok (.getfield 42, 3) := by decide +kernel
theorem dX3_countLandsNotFallen_40 : decode cX3_countLandsNotFallen 40 = .ok (.ishl, 1) := by decide +kernel
theorem dX3_countLandsNotFallen_41 : decode cX3_countLandsNotFallen 41 = .ok (.ior, 1) := by decide +kernel
theorem dX3_countLandsNotFallen_42 : decode cX3_countLandsNotFallen 42 = .ok (.istore_n 1, 1) := by decide +kernel
theorem dX3_countLandsNotFallen_43 : decode cX3_countLandsNotFallen 43 = .ok (.iinc 2 1, 3) := by decide +kernel
theorem dX3_countLandsNotFallen_46 : decode cX3_countLandsNotFallen 46 = .ok (.goto (-42), 3) := by decide +kernel
theorem dX3_countLandsNotFallen_49 : decode cX3_countLandsNotFallen 49 = .ok (.iload_n 1, 1) := by decide +kernel
theorem dX3_countLandsNotFallen_50 : decode cX3_countLandsNotFallen 50 = .ok (.invokestatic 45, 3) := by decide +kernel
theorem dX3_countLandsNotFallen_53 : decode cX3_countLandsNotFallen 53 = .ok (.ireturn, 1) := by decide +kernel
theorem dX3_countTimes_0 : decode cX3_countTimes 0 = .ok (.iconst 0, 1) := by decide +kernel
theorem dX3_countTimes_1 : decode cX3_countTimes 1 = .ok (.istore_n 1, 1) := by decide +kernel
theorem dX3_countTimes_2 : decode cX3_countTimes 2 = .ok (.iconst 0, 1) := by decide +kernel
theorem dX3_countTimes_3 : decode cX3_countTimes 3 = .ok (.istore_n 2, 1) := by decide +kernel
theorem dX3_countTimes_4 : decode cX3_countTimes 4 = .ok (.iload_n 2, 1) := by decide +kernel
theorem dX3_countTimes_5 : decode cX3_countTimes 5 = .ok (.aload_n 0, 1) := by decide +kernel
theorem dX3_countTimes_6 : decode cX3_countTimes 6 = .ok (.getfield 17, 3) := by decide +kernel
theorem dX3_countTimes_9 : decode cX3_countTimes 9 = .ok (.arraylength, 1) := by decide +kernel
theorem dX3_countTimes_10 : decode cX3_countTimes 10 = .ok (.if_icmp .ge 30, 3) := by decide +kernel
theorem dX3_countTimes_13 : decode cX3_countTimes 13 = .ok (.aload_n 0, 1) := by decide +kernel
theorem dX3_countTimes_14 : decode cX3_countTimes 14 = .ok (.getfield 17, 3) := by decide +kernel
theorem dX3_countTimes_17 : decode cX3_countTimes 17 = .ok (.iload_n 2, 1) := by decide +kernel
theorem dX3_countTimes_18 : decode cX3_countTimes 18 = .ok (.aaload, 1) := by decide +kernel
theorem dX3_countTimes_19 : decode cX3_countTimes 19 = .ok (.astore_n 3, 1) := by decide +kernel
theorem dX3_countTimes_20 : decode cX3_countTimes 20 = .ok (.aload_n 3, 1) := by decide +kernel
theorem dX3_countTimes_21 : decode cX3_countTimes 21 = .ok (.ifnull 13, 3) := by decide +kernel
theorem dX3_countTimes_24 : decode cX3_countTimes 24 = .ok (.aload_n 3, 1) := by decide +kernel
theorem dX3_countTimes_25 : decode cX3_countTimes 25 = .ok (.invokevirtual 51, 3) := by decide +kernel
theorem dX3_countTimes_28 : decode cX3_countTimes 28 = .ok (.ifCond .eq 6, 3) := by decide +kernel
theorem dX3_countTimes_31 : decode cX3_countTimes 31 = .ok (.iinc 1 1, 3) := by decide +kernel
theorem dX3_countTimes_34 : decode cX3_countTimes 34 = .ok (.iinc 2 1, 3) := by decide +kernel
theorem dX3_countTimes_37 : decode cX3_countTimes 37 = .ok (.goto (-33), 3) := by decide +kernel
theorem dX3_countTimes_40 : decode cX3_countTimes 40 = .ok (.iload_n 1, 1) := by decide +kernel
theorem dX3_countTimes_41 : decode cX3_countTimes 41 = .ok (.ireturn, 1) := by decide +kernel
theorem dX3_countFaster_0 : decode cX3_countFaster 0 = .ok (.iconst 0, 1) := by decide +kernel
theorem dX3_countFaster_1 : decode cX3_countFaster 1 = .ok (.istore_n 2, 1) := by decide +kernel
theorem dX3_countFaster_2 : decode cX3_countFaster 2 = .ok (.iconst 0, 1) := by decide +kernel
theorem dX3_countFaster_3 : decode cX3_countFaster 3 = .ok (.istore_n 3, 1) := by decide +kernel
theorem dX3_countFaster_4 : decode cX3_countFaster 4 = .ok (.iload_n 3, 1) := by decide +kernel
theorem dX3_countFaster_5 : decode cX3_countFaster 5 = .ok (.aload_n 0, 1) := by decide +kernel
theorem dX3_countFaster_6 : decode cX3_countFaster 6 = .ok (.getfield 17, 3) := by decide +kernel
theorem dX3_countFaster_9 : decode cX3_countFaster 9 = .ok (.arraylength, 1) := by decide +kernel
theorem dX3_countFaster_10 : decode cX3_countFaster 10 = .ok (.if_icmp .ge 45, 3) := by decide +kernel
theorem dX3_countFaster_13 : decode cX3_countFaster 13 = .ok (.aload_n 0, 1) := by decide +kernel
theorem dX3_countFaster_14 : decode cX3_countFaster 14 = .ok (.getfield 17, 3) := by decide +kernel
theorem dX3_countFaster_17 : decode cX3_countFaster 17 = .ok (.iload_n 3, 1) := by decide +kernel
theorem dX3_countFaster_18 : decode cX3_countFaster 18 = .ok (.aaload, 1) := by decide +kernel
theorem dX3_countFaster_19 : decode cX3_countFaster 19 = .ok (.astore 4, 2) := by decide +kernel
theorem dX3_countFaster_21 : decode cX3_countFaster 21 = .ok (.aload 4, 2) := by decide +kernel
theorem dX3_countFaster_23 : decode cX3_countFaster 23 = .ok (.ifnull 26, 3) := by decide +kernel
theorem dX3_countFaster_26 : decode cX3_countFaster 26 = .ok (.aload 4, 2) := by decide +kernel
theorem dX3_countFaster_28 : decode cX3_countFaster 28 = .ok (.invokevirtual 51, 3) := by decide +kernel
theorem dX3_countFaster_31 : decode cX3_countFaster 31 = .ok (.ifCond .eq 18, 3) := by decide +kernel
theorem dX3_countFaster_34 : decode cX3_countFaster 34 = .ok (.aload 4, 2) := by decide +kernel
theorem dX3_countFaster_36 : decode cX3_countFaster 36 = .ok (.getfield 55, 3) := by decide +kernel
theorem dX3_countFaster_39 : decode cX3_countFaster 39 = .ok (.aload_n 1, 1) := by decide +kernel
theorem dX3_countFaster_40 : decode cX3_countFaster 40 = .ok (.getfield 55, 3) := by decide +kernel
theorem dX3_countFaster_43 : decode cX3_countFaster 43 = .ok (.if_icmp .ge 6, 3) := by decide +kernel
theorem dX3_countFaster_46 : decode cX3_countFaster 46 = .ok (.iinc 2 1, 3) := by decide +kernel
theorem dX3_countFaster_49 : decode cX3_countFaster 49 = .ok (.iinc 3 1, 3) := by decide +kernel
theorem dX3_countFaster_52 : decode cX3_countFaster 52 = .ok (.goto (-48), 3) := by decide +kernel
theorem dX3_countFaster_55 : decode cX3_countFaster 55 = .ok (.iload_n 2, 1) := by decide +kernel
theorem dX3_countFaster_56 : decode cX3_countFaster 56 = .ok (.ireturn, 1) := by decide +kernel
theorem dX3_countOfLandAhead_0 : decode cX3_countOfLandAhead 0 = .ok (.iconst 0, 1) := by decide +kernel
theorem dX3_countOfLandAhead_1 : decode cX3_countOfLandAhead 1 = .ok (.istore_n 2, 1) := by decide +kernel
theorem dX3_countOfLandAhead_2 : decode cX3_countOfLandAhead 2 = .ok (.iconst 0, 1) := by decide +kernel
theorem dX3_countOfLandAhead_3 : decode cX3_countOfLandAhead 3 = .ok (.istore_n 3, 1) := by decide +kernel
theorem dX3_countOfLandAhead_4 : decode cX3_countOfLandAhead 4 = .ok (.iload_n 3, 1) := by decide +kernel
theorem dX3_countOfLandAhead_5 : decode cX3_countOfLandAhead 5 = .ok (.aload_n 0, 1) := by decide +kernel
theorem dX3_countOfLandAhead_6 : decode cX3_countOfLandAhead 6 = .ok (.getfield 17, 3) := by decide +kernel
theorem dX3_countOfLandAhead_9 : decode cX3_countOfLandAhead 9 = .ok (.arraylength, 1) := by decide +kernel
theorem dX3_countOfLandAhead_10 : decode cX3_countOfLandAhead 10 = .ok (.if_icmp .ge 60, 3) := by decide +kernel
theorem dX3_countOfLandAhead_13 : decode cX3_countOfLandAhead 13 = .ok (.aload_n 0, 1) := by decide +kernel
theorem dX3_countOfLandAhead_14 : decode cX3_countOfLandAhead 14 = .ok (.getfield 17, 3) := by decide +kernel
theorem dX3_countOfLandAhead_17 : decode cX3_countOfLandAhead 17 = .ok (.iload_n 3, 1) := by decide +kernel
theorem dX3_countOfLandAhead_18 : decode cX3_countOfLandAhead 18 = .ok (.aaload, 1) := by decide +kernel
theorem dX3_countOfLandAhead_19 : decode cX3_countOfLandAhead 19 = .ok (.astore 4, 2) := by decide +kernel
theorem dX3_countOfLandAhead_21 : decode cX3_countOfLandAhead 21 = .ok (.aload 4, 2) := by decide +kernel
theorem dX3_countOfLandAhead_23 : decode cX3_countOfLandAhead 23 = .ok (.ifnull 41, 3) := by decide +kernel
theorem dX3_countOfLandAhead_26 : decode cX3_countOfLandAhead 26 = .ok (.aload 4, 2) := by decide +kernel
theorem dX3_countOfLandAhead_28 : decode cX3_countOfLandAhead 28 = .ok (.invokevirtual 51, 3) := by decide +kernel
theorem dX3_countOfLandAhead_31 : decode cX3_countOfLandAhead 31 = .ok (.ifCond .eq 33, 3) := by decide +kernel
theorem dX3_countOfLandAhead_34 : decode cX3_countOfLandAhead 34 = .ok (.aload 4, 2) := by decide +kernel
theorem dX3_countOfLandAhead_36 : decode cX3_countOfLandAhead 36 = .ok (.getfield 34, 3) := by decide +kernel
theorem dX3_countOfLandAhead_39 : decode cX3_countOfLandAhead 39 = .ok (.getfield 42, 3) := by decide +kernel
theorem dX3_countOfLandAhead_42 : decode cX3_countOfLandAhead 42 = .ok (.aload_n 1, 1) := by decide +kernel
theorem dX3_countOfLandAhead_43 : decode cX3_countOfLandAhead 43 = .ok (.getfield 34, 3) := by decide +kernel
theorem dX3_countOfLandAhead_46 : decode cX3_countOfLandAhead 46 = .ok (.getfield 42, 3) := by decide +kernel
theorem dX3_countOfLandAhead_49 : decode cX3_countOfLandAhead 49 = .ok (.if_icmp .ne 15, 3) := by decide +kernel
theorem dX3_countOfLandAhead_52 : decode cX3_countOfLandAhead 52 = .ok (.aload 4, 2) := by decide +kernel
theorem dX3_countOfLandAhead_54 : decode cX3_countOfLandAhead 54 = .ok (.aload_n 1, 1) := by decide +kernel
theorem dX3_countOfLandAhead_55 : decode cX3_countOfLandAhead 55 = .ok (.invokevirtual 58, 3) := by decide +kernel
theorem dX3_countOfLandAhead_58 : decode cX3_countOfLandAhead 58 = .ok (.ifCond .eq 6, 3) := by decide +kernel
theorem dX3_countOfLandAhead_61 : decode cX3_countOfLandAhead 61 = .ok (.iinc 2 1, 3) := by decide +kernel
theorem dX3_countOfLandAhead_64 : decode cX3_countOfLandAhead 64 = .ok (.iinc 3 1, 3) := by decide +kernel
theorem dX3_countOfLandAhead_67 : decode cX3_countOfLandAhead 67 = .ok (.goto (-63), 3) := by decide +kernel
theorem dX3_countOfLandAhead_70 : decode cX3_countOfLandAhead 70 = .ok (.iload_n 2, 1) := by decide +kernel
theorem dX3_countOfLandAhead_71 : decode cX3_countOfLandAhead 71 = .ok (.ireturn, 1) := by decide +kernel
theorem dX3_nextInOrder_0 : decode cX3_nextInOrder 0 = .ok (.aconst_null, 1) := by decide +kernel
theorem dX3_nextInOrder_1 : decode cX3_nextInOrder 1 = .ok (.astore_n 2, 1) := by decide +kernel
theorem dX3_nextInOrder_2 : decode cX3_nextInOrder 2 = .ok (.iconst 0, 1) := by decide +kernel
theorem dX3_nextInOrder_3 : decode cX3_nextInOrder 3 = .ok (.istore_n 3, 1) := by decide +kernel
theorem dX3_nextInOrder_4 : decode cX3_nextInOrder 4 = .ok (.iload_n 3, 1) := by decide +kernel
theorem dX3_nextInOrder_5 : decode cX3_nextInOrder 5 = .ok (.aload_n 0, 1) := by decide +kernel
theorem dX3_nextInOrder_6 : decode cX3_nextInOrder 6 = .ok (.getfield 17, 3) := by decide +kernel
theorem dX3_nextInOrder_9 : decode cX3_nextInOrder 9 = .ok (.arraylength, 1) := by decide +kernel
theorem dX3_nextInOrder_10 : decode cX3_nextInOrder 10 = .ok (.if_icmp .ge 59, 3) := by decide +kernel
theorem dX3_nextInOrder_13 : decode cX3_nextInOrder 13 = .ok (.aload_n 0, 1) := by decide +kernel
theorem dX3_nextInOrder_14 : decode cX3_nextInOrder 14 = .ok (.getfield 17, 3) := by decide +kernel
theorem dX3_nextInOrder_17 : decode cX3_nextInOrder 17 = .ok (.iload_n 3, 1) := by decide +kernel
theorem dX3_nextInOrder_18 : decode cX3_nextInOrder 18 = .ok (.aaload, 1) := by decide +kernel
theorem dX3_nextInOrder_19 : decode cX3_nextInOrder 19 = .ok (.astore 4, 2) := by decide +kernel
theorem dX3_nextInOrder_21 : decode cX3_nextInOrder 21 = .ok (.aload 4, 2) := by decide +kernel
theorem dX3_nextInOrder_23 : decode cX3_nextInOrder 23 = .ok (.ifnull 40, 3) := by decide +kernel
theorem dX3_nextInOrder_26 : decode cX3_nextInOrder 26 = .ok (.aload 4, 2) := by decide +kernel
theorem dX3_nextInOrder_28 : decode cX3_nextInOrder 28 = .ok (.invokevirtual 51, 3) := by decide +kernel
theorem dX3_nextInOrder_31 : decode cX3_nextInOrder 31 = .ok (.ifCond .eq 32, 3) := by decide +kernel
theorem dX3_nextInOrder_34 : decode cX3_nextInOrder 34 = .ok (.aload_n 1, 1) := by decide +kernel
theorem dX3_nextInOrder_35 : decode cX3_nextInOrder 35 = .ok (.ifnull 12, 3) := by decide +kernel
theorem dX3_nextInOrder_38 : decode cX3_nextInOrder 38 = .ok (.aload_n 1, 1) := by decide +kernel
theorem dX3_nextInOrder_39 : decode cX3_nextInOrder 39 = .ok (.aload 4, 2) := by decide +kernel
theorem dX3_nextInOrder_41 : decode cX3_nextInOrder 41 = .ok (.invokevirtual 58, 3) := by decide +kernel
theorem dX3_nextInOrder_44 : decode cX3_nextInOrder 44 = .ok (.ifCond .eq 19, 3) := by decide +kernel
theorem dX3_nextInOrder_47 : decode cX3_nextInOrder 47 = .ok (.aload_n 2, 1) := by decide +kernel
theorem dX3_nextInOrder_48 : decode cX3_nextInOrder 48 = .ok (.ifnull 12, 3) := by decide +kernel
theorem dX3_nextInOrder_51 : decode cX3_nextInOrder 51 = .ok (.aload 4, 2) := by decide +kernel
theorem dX3_nextInOrder_53 : decode cX3_nextInOrder 53 = .ok (.aload_n 2, 1) := by decide +kernel
theorem dX3_nextInOrder_54 : decode cX3_nextInOrder 54 = .ok (.invokevirtual 58, 3) := by decide +kernel
theorem dX3_nextInOrder_57 : decode cX3_nextInOrder 57 = .ok (.ifCond .eq 6, 3) := by decide +kernel
theorem dX3_nextInOrder_60 : decode cX3_nextInOrder 60 = .ok (.aload 4, 2) := by decide +kernel
theorem dX3_nextInOrder_62 : decode cX3_nextInOrder 62 = .ok (.astore_n 2, 1) := by decide +kernel
theorem dX3_nextInOrder_63 : decode cX3_nextInOrder 63 = .ok (.iinc 3 1, 3) := by decide +kernel
theorem dX3_nextInOrder_66 : decode cX3_nextInOrder 66 = .ok (.goto (-62), 3) := by decide +kernel
theorem dX3_nextInOrder_69 : decode cX3_nextInOrder 69 = .ok (.aload_n 2, 1) := by decide +kernel
theorem dX3_nextInOrder_70 : decode cX3_nextInOrder 70 = .ok (.areturn, 1) := by decide +kernel
theorem dX3_inOrder_0 : decode cX3_inOrder 0 = .ok (.iload_n 1, 1) := by decide +kernel
theorem dX3_inOrder_1 : decode cX3_inOrder 1 = .ok (.ifCond .lt 12, 3) := by decide +kernel
theorem dX3_inOrder_4 : decode cX3_inOrder 4 = .ok (.iload_n 1, 1) := by decide +kernel
theorem dX3_inOrder_5 : decode cX3_inOrder 5 = .ok (.aload_n 0, 1) := by decide +kernel
theorem dX3_inOrder_6 : decode cX3_inOrder 6 = .ok (.getfield 17, 3) := by decide +kernel
theorem dX3_inOrder_9 : decode cX3_inOrder 9 = .ok (.arraylength, 1) := by decide +kernel
theorem dX3_inOrder_10 : decode cX3_inOrder 10 = .ok (.if_icmp .lt 5, 3) := by decide +kernel
theorem dX3_inOrder_13 : decode cX3_inOrder 13 = .ok (.aconst_null, 1) := by decide +kernel
theorem dX3_inOrder_14 : decode cX3_inOrder 14 = .ok (.areturn, 1) := by decide +kernel
theorem dX3_inOrder_15 : decode cX3_inOrder 15 = .ok (.aload_n 0, 1) := by decide +kernel
theorem dX3_inOrder_16 : decode cX3_inOrder 16 = .ok (.aconst_null, 1) := by decide +kernel
theorem dX3_inOrder_17 : decode cX3_inOrder 17 = .ok (.invokevirtual 62, 3) := by decide +kernel
theorem dX3_inOrder_20 : decode cX3_inOrder 20 = .ok (.astore_n 2, 1) := by decide +kernel
theorem dX3_inOrder_21 : decode cX3_inOrder 21 = .ok (.iconst 0, 1) := by decide +kernel
theorem dX3_inOrder_22 : decode cX3_inOrder 22 = .ok (.istore_n 3, 1) := by decide +kernel
theorem dX3_inOrder_23 : decode cX3_inOrder 23 = .ok (.iload_n 3, 1) := by decide +kernel
theorem dX3_inOrder_24 : decode cX3_inOrder 24 = .ok (.iload_n 1, 1) := by decide +kernel
theorem dX3_inOrder_25 : decode cX3_inOrder 25 = .ok (.if_icmp .ge 19, 3) := by decide +kernel
theorem dX3_inOrder_28 : decode cX3_inOrder 28 = .ok (.aload_n 2, 1) := by decide +kernel
theorem dX3_inOrder_29 : decode cX3_inOrder 29 = .ok (.ifnull 15, 3) := by decide +kernel
theorem dX3_inOrder_32 : decode cX3_inOrder 32 = .ok (.aload_n 0, 1) := by decide +kernel
theorem dX3_inOrder_33 : decode cX3_inOrder 33 = .ok (.aload_n 2, 1) := by decide +kernel
theorem dX3_inOrder_34 : decode cX3_inOrder 34 = .ok (.invokevirtual 62, 3) := by decide +kernel
theorem dX3_inOrder_37 : decode cX3_inOrder 37 = .ok (.astore_n 2, 1) := by decide +kernel
theorem dX3_inOrder_38 : decode cX3_inOrder 38 = .ok (.iinc 3 1, 3) := by decide +kernel
theorem dX3_inOrder_41 : decode cX3_inOrder 41 = .ok (.goto (-18), 3) := by decide +kernel
theorem dX3_inOrder_44 : decode cX3_inOrder 44 = .ok (.aload_n 2, 1) := by decide +kernel
theorem dX3_inOrder_45 : decode cX3_inOrder 45 = .ok (.areturn, 1) := by decide +kernel
theorem dX3_inOrderOfSlots_0 : decode cX3_inOrderOfSlots 0 = .ok (.iconst 0, 1) := by decide +kernel
theorem dX3_inOrderOfSlots_1 : decode cX3_inOrderOfSlots 1 = .ok (.istore_n 2, 1) := by decide +kernel
theorem dX3_inOrderOfSlots_2 : decode cX3_inOrderOfSlots 2 = .ok (.aload_n 0, 1) := by decide +kernel
theorem dX3_inOrderOfSlots_3 : decode cX3_inOrderOfSlots 3 = .ok (.aconst_null, 1) := by decide +kernel
theorem dX3_inOrderOfSlots_4 : decode cX3_inOrderOfSlots 4 = .ok (.invokevirtual 62, 3) := by decide +kernel
theorem dX3_inOrderOfSlots_7 : decode cX3_inOrderOfSlots 7 = .ok (.astore_n 3, 1) := by decide +kernel
theorem dX3_inOrderOfSlots_8 : decode cX3_inOrderOfSlots 8 = .ok (.iconst 0, 1) := by decide +kernel
theorem dX3_inOrderOfSlots_9 : decode cX3_inOrderOfSlots 9 = .ok (.istore 4, 2) := by decide +kernel
theorem dX3_inOrderOfSlots_11 : decode cX3_inOrderOfSlots 11 = .ok (.iload 4, 2) := by decide +kernel
theorem dX3_inOrderOfSlots_13 : decode cX3_inOrderOfSlots 13 = .ok (.aload_n 0, 1) := by decide +kernel
theorem dX3_inOrderOfSlots_14 : decode cX3_inOrderOfSlots 14 = .ok (.getfield 17, 3) := by decide +kernel
theorem dX3_inOrderOfSlots_17 : decode cX3_inOrderOfSlots 17 = .ok (.arraylength, 1) := by decide +kernel
theorem dX3_inOrderOfSlots_18 : decode cX3_inOrderOfSlots 18 = .ok (.if_icmp .ge 38, 3) := by decide +kernel
theorem dX3_inOrderOfSlots_21 : decode cX3_inOrderOfSlots 21 = .ok (.aload_n 3, 1) := by decide +kernel
theorem dX3_inOrderOfSlots_22 : decode cX3_inOrderOfSlots 22 = .ok (.ifnull 34, 3) := by decide +kernel
theorem dX3_inOrderOfSlots_25 : decode cX3_inOrderOfSlots 25 = .ok (.aload_n 0, 1) := by decide +kernel
theorem dX3_inOrderOfSlots_26 : decode cX3_inOrderOfSlots 26 = .ok (.aload_n 3, 1) := by decide +kernel
theorem dX3_inOrderOfSlots_27 : decode cX3_inOrderOfSlots 27 = .ok (.invokevirtual 66, 3) := by decide +kernel
theorem dX3_inOrderOfSlots_30 : decode cX3_inOrderOfSlots 30 = .ok (.iconst 2, 1) := by decide +kernel
theorem dX3_inOrderOfSlots_31 : decode cX3_inOrderOfSlots 31 = .ok (.if_icmp .ge 13, 3) := by decide +kernel
theorem dX3_inOrderOfSlots_34 : decode cX3_inOrderOfSlots 34 = .ok (.iload_n 2, 1) := by decide +kernel
theorem dX3_inOrderOfSlots_35 : decode cX3_inOrderOfSlots 35 = .ok (.iload_n 1, 1) := by decide +kernel
theorem dX3_inOrderOfSlots_36 : decode cX3_inOrderOfSlots 36 = .ok (.if_icmp .ne 5, 3) := by decide +kernel
theorem dX3_inOrderOfSlots_39 : decode cX3_inOrderOfSlots 39 = .ok (.aload_n 3, 1) := by decide +kernel
theorem dX3_inOrderOfSlots_40 : decode cX3_inOrderOfSlots 40 = .ok (.areturn, 1) := by decide +kernel
theorem dX3_inOrderOfSlots_41 : decode cX3_inOrderOfSlots 41 = .ok (.iinc 2 1, 3) := by decide +kernel
theorem dX3_inOrderOfSlots_44 : decode cX3_inOrderOfSlots 44 = .ok (.aload_n 0, 1) := by decide +kernel
theorem dX3_inOrderOfSlots_45 : decode cX3_inOrderOfSlots 45 = .ok (.aload_n 3, 1) := by decide +kernel
theorem dX3_inOrderOfSlots_46 : decode cX3_inOrderOfSlots 46 = .ok (.invokevirtual 62, 3) := by decide +kernel
theorem dX3_inOrderOfSlots_49 : decode cX3_inOrderOfSlots 49 = .ok (.astore_n 3, 1) := by decide +kernel
theorem dX3_inOrderOfSlots_50 : decode cX3_inOrderOfSlots 50 = .ok (.iinc 4 1, 3) := by decide +kernel
theorem dX3_inOrderOfSlots_53 : decode cX3_inOrderOfSlots 53 = .ok (.goto (-42), 3) := by decide +kernel
theorem dX3_inOrderOfSlots_56 : decode cX3_inOrderOfSlots 56 = .ok (.aconst_null, 1) := by decide +kernel
theorem dX3_inOrderOfSlots_57 : decode cX3_inOrderOfSlots 57 = .ok (.areturn, 1) := by decide +kernel
theorem dX3_addTimesTo_0 : decode cX3_addTimesTo 0 = .ok (.lload_n 1, 1) := by decide +kernel
theorem dX3_addTimesTo_1 : decode cX3_addTimesTo 1 = .ok (.lstore_n 3, 1) := by decide +kernel
theorem dX3_addTimesTo_2 : decode cX3_addTimesTo 2 = .ok (.iconst 0, 1) := by decide +kernel
theorem dX3_addTimesTo_3 : decode cX3_addTimesTo 3 = .ok (.istore 5, 2) := by decide +kernel
theorem dX3_addTimesTo_5 : decode cX3_addTimesTo 5 = .ok (.iload 5, 2) := by decide +kernel
theorem dX3_addTimesTo_7 : decode cX3_addTimesTo 7 = .ok (.aload_n 0, 1) := by decide +kernel
theorem dX3_addTimesTo_8 : decode cX3_addTimesTo 8 = .ok (.getfield 17, 3) := by decide +kernel
theorem dX3_addTimesTo_11 : decode cX3_addTimesTo 11 = .ok (.arraylength, 1) := by decide +kernel
theorem dX3_addTimesTo_12 : decode cX3_addTimesTo 12 = .ok (.if_icmp .ge 48, 3) := by decide +kernel
theorem dX3_addTimesTo_15 : decode cX3_addTimesTo 15 = .ok (.aload_n 0, 1) := by decide +kernel
theorem dX3_addTimesTo_16 : decode cX3_addTimesTo 16 = .ok (.getfield 17, 3) := by decide +kernel
theorem dX3_addTimesTo_19 : decode cX3_addTimesTo 19 = .ok (.iload 5, 2) := by decide +kernel
theorem dX3_addTimesTo_21 : decode cX3_addTimesTo 21 = .ok (.aaload, 1) := by decide +kernel
theorem dX3_addTimesTo_22 : decode cX3_addTimesTo 22 = .ok (.astore 6, 2) := by decide +kernel
theorem dX3_addTimesTo_24 : decode cX3_addTimesTo 24 = .ok (.aload 6, 2) := by decide +kernel
theorem dX3_addTimesTo_26 : decode cX3_addTimesTo 26 = .ok (.ifnull 28, 3) := by decide +kernel
theorem dX3_addTimesTo_29 : decode cX3_addTimesTo 29 = .ok (.ldc2_w 70, 3) := by decide +kernel
theorem dX3_addTimesTo_32 : decode cX3_addTimesTo 32 = .ok (.lload_n 3, 1) := by decide +kernel
theorem dX3_addTimesTo_33 : decode cX3_addTimesTo 33 = .ok (.lmul, 1) := by decide +kernel
theorem dX3_addTimesTo_34 : decode cX3_addTimesTo 34 = .ok (.aload 6, 2) := by decide +kernel
theorem dX3_addTimesTo_36 : decode cX3_addTimesTo 36 = .ok (.invokevirtual 51, 3) := by decide +kernel
theorem dX3_addTimesTo_39 : decode cX3_addTimesTo 39 = .ok (.ifCond .eq 11, 3) := by decide +kernel
theorem dX3_addTimesTo_42 : decode cX3_addTimesTo 42 = .ok (.aload 6, 2) := by decide +kernel
theorem dX3_addTimesTo_44 : decode cX3_addTimesTo 44 = .ok (.getfield 55, 3) := by decide +kernel
theorem dX3_addTimesTo_47 : decode cX3_addTimesTo 47 = .ok (.goto 4, 3) := by decide +kernel
theorem dX3_addTimesTo_50 : decode cX3_addTimesTo 50 = .ok (.iconst 0, 1) := by decide +kernel
theorem dX3_addTimesTo_51 : decode cX3_addTimesTo 51 = .ok (.i2l, 1) := by decide +kernel
theorem dX3_addTimesTo_52 : decode cX3_addTimesTo 52 = .ok (.ladd, 1) := by decide +kernel
theorem dX3_addTimesTo_53 : decode cX3_addTimesTo 53 = .ok (.lstore_n 3, 1) := by decide +kernel
theorem dX3_addTimesTo_54 : decode cX3_addTimesTo 54 = .ok (.iinc 5 1, 3) := by decide +kernel
theorem dX3_addTimesTo_57 : decode cX3_addTimesTo 57 = .ok (.goto (-52), 3) := by decide +kernel
theorem dX3_addTimesTo_60 : decode cX3_addTimesTo 60 = .ok (.lload_n 3, 1) := by decide +kernel
theorem dX3_addTimesTo_61 : decode cX3_addTimesTo 61 = .ok (.lreturn, 1) := by decide +kernel
theorem dX3_isInOrder_0 : decode cX3_isInOrder 0 = .ok (.iconst 0, 1) := by decide +kernel
theorem dX3_isInOrder_1 : decode cX3_isInOrder 1 = .ok (.istore_n 1, 1) := by decide +kernel
theorem dX3_isInOrder_2 : decode cX3_isInOrder 2 = .ok (.iload_n 1, 1) := by decide +kernel
theorem dX3_isInOrder_3 : decode cX3_isInOrder 3 = .ok (.aload_n 0, 1) := by decide +kernel
theorem dX3_isInOrder_4 : decode cX3_isInOrder 4 = .ok (.getfield 17, 3) := by decide +kernel
theorem dX3_isInOrder_7 : decode cX3_isInOrder 7 = .ok (.arraylength, 1) := by decide +kernel
theorem dX3_isInOrder_8 : decode cX3_isInOrder 8 = .ok (.if_icmp .ge 50, 3) := by decide +kernel
theorem dX3_isInOrder_11 : decode cX3_isInOrder 11 = .ok (.aload_n 0, 1) := by decide +kernel
theorem dX3_isInOrder_12 : decode cX3_isInOrder 12 = .ok (.getfield 17, 3) := by decide +kernel
theorem dX3_isInOrder_15 : decode cX3_isInOrder 15 = .ok (.iload_n 1, 1) := by decide +kernel
theorem dX3_isInOrder_16 : decode cX3_isInOrder 16 = .ok (.aaload, 1) := by decide +kernel
theorem dX3_isInOrder_17 : decode cX3_isInOrder 17 = .ok (.astore_n 2, 1) := by decide +kernel
theorem dX3_isInOrder_18 : decode cX3_isInOrder 18 = .ok (.aload_n 0, 1) := by decide +kernel
theorem dX3_isInOrder_19 : decode cX3_isInOrder 19 = .ok (.getfield 72, 3) := by decide +kernel
theorem dX3_isInOrder_22 : decode cX3_isInOrder 22 = .ok (.ifCond .ne 30, 3) := by decide +kernel
theorem dX3_isInOrder_25 : decode cX3_isInOrder 25 = .ok (.aload_n 2, 1) := by decide +kernel
theorem dX3_isInOrder_26 : decode cX3_isInOrder 26 = .ok (.ifnull 26, 3) := by decide +kernel
theorem dX3_isInOrder_29 : decode cX3_isInOrder 29 = .ok (.aload_n 2, 1) := by decide +kernel
theorem dX3_isInOrder_30 : decode cX3_isInOrder 30 = .ok (.getfield 38, 3) := by decide +kernel
theorem dX3_isInOrder_33 : decode cX3_isInOrder 33 = .ok (.ifCond .ne 19, 3) := by decide +kernel
theorem dX3_isInOrder_36 : decode cX3_isInOrder 36 = .ok (.aload_n 2, 1) := by decide +kernel
theorem dX3_isInOrder_37 : decode cX3_isInOrder 37 = .ok (.getfield 34, 3) := by decide +kernel
theorem dX3_isInOrder_40 : decode cX3_isInOrder 40 = .ok (.getfield 75, 3) := by decide +kernel
theorem dX3_isInOrder_43 : decode cX3_isInOrder 43 = .ok (.aload_n 2, 1) := by decide +kernel
theorem dX3_isInOrder_44 : decode cX3_isInOrder 44 = .ok (.getfield 79, 3) := by decide +kernel
theorem dX3_isInOrder_47 : decode cX3_isInOrder 47 = .ok (.if_acmp .eq 5, 3) := by decide +kernel
theorem dX3_isInOrder_50 : decode cX3_isInOrder 50 = .ok (.iconst 0, 1) := by decide +kernel
theorem dX3_isInOrder_51 : decode cX3_isInOrder 51 = .ok (.ireturn, 1) := by decide +kernel
theorem dX3_isInOrder_52 : decode cX3_isInOrder 52 = .ok (.iinc 1 1, 3) := by decide +kernel
theorem dX3_isInOrder_55 : decode cX3_isInOrder 55 = .ok (.goto (-53), 3) := by decide +kernel
theorem dX3_isInOrder_58 : decode cX3_isInOrder 58 = .ok (.iconst 1, 1) := by decide +kernel
theorem dX3_isInOrder_59 : decode cX3_isInOrder 59 = .ok (.ireturn, 1) := by decide +kernel
theorem dX4_init_0 : decode cX4_init 0 = .ok (.aload_n 0, 1) := by decide +kernel
theorem dX4_init_1 : decode cX4_init 1 = .ok (.invokespecial 3, 3) := by decide +kernel
theorem dX4_init_4 : decode cX4_init 4 = .ok (.aload_n 0, 1) := by decide +kernel
theorem dX4_init_5 : decode cX4_init 5 = .ok (.iconst (-1), 1) := by decide +kernel
theorem dX4_init_6 : decode cX4_init 6 = .ok (.putfield 9, 3) := by decide +kernel
theorem dX4_init_9 : decode cX4_init 9 = .ok (.aload_n 0, 1) := by decide +kernel
theorem dX4_init_10 : decode cX4_init 10 = .ok (.iload_n 1, 1) := by decide +kernel
theorem dX4_init_11 : decode cX4_init 11 = .ok (.putfield 15, 3) := by decide +kernel
theorem dX4_init_14 : decode cX4_init 14 = .ok (.aload_n 0, 1) := by decide +kernel
theorem dX4_init_15 : decode cX4_init 15 = .ok (.iload_n 2, 1) := by decide +kernel
theorem dX4_init_16 : decode cX4_init 16 = .ok (.putfield 18, 3) := by decide +kernel
theorem dX4_init_19 : decode cX4_init 19 = .ok (.aload_n 0, 1) := by decide +kernel
theorem dX4_init_20 : decode cX4_init 20 = .ok (.iload_n 3, 1) := by decide +kernel
theorem dX4_init_21 : decode cX4_init 21 = .ok (.putfield 21, 3) := by decide +kernel
theorem dX4_init_24 : decode cX4_init 24 = .ok (.return_, 1) := by decide +kernel
theorem dX4_drawBounds_0 : decode cX4_drawBounds 0 = .ok (.aload_n 0, 1) := by decide +kernel
theorem dX4_drawBounds_1 : decode cX4_drawBounds 1 = .ok (.iload_n 1, 1) := by decide +kernel
theorem dX4_drawBounds_2 : decode cX4_drawBounds 2 = .ok (.putfield 24, 3) := by decide +kernel
theorem dX4_drawBounds_5 : decode cX4_drawBounds 5 = .ok (.aload_n 0, 1) := by decide +kernel
theorem dX4_drawBounds_6 : decode cX4_drawBounds 6 = .ok (.iload_n 2, 1) := by decide +kernel
theorem dX4_drawBounds_7 : decode cX4_drawBounds 7 = .ok (.putfield 27, 3) := by decide +kernel
theorem dX4_drawBounds_10 : decode cX4_drawBounds 10 = .ok (.aload_n 0, 1) := by decide +kernel
theorem dX4_drawBounds_11 : decode cX4_drawBounds 11 = .ok (.iconst (-1), 1) := by decide +kernel
theorem dX4_drawBounds_12 : decode cX4_drawBounds 12 = .ok (.putfield 9, 3) := by decide +kernel
theorem dX4_drawBounds_15 : decode cX4_drawBounds 15 = .ok (.return_, 1) := by decide +kernel
theorem dX4_holds_0 : decode cX4_holds 0 = .ok (.aload_n 1, 1) := by decide +kernel
theorem dX4_holds_1 : decode cX4_holds 1 = .ok (.invokevirtual 30, 3) := by decide +kernel
theorem dX4_holds_4 : decode cX4_holds 4 = .ok (.istore_n 2, 1) := by decide +kernel
theorem dX4_holds_5 : decode cX4_holds 5 = .ok (.aload_n 1, 1) := by decide +kernel
theorem dX4_holds_6 : decode cX4_holds 6 = .ok (.aload_n 0, 1) := by decide +kernel
theorem dX4_holds_7 : decode cX4_holds 7 = .ok (.getfield 18, 3) := by decide +kernel
theorem dX4_holds_10 : decode cX4_holds 10 = .ok (.invokevirtual 36, 3) := by decide +kernel
theorem dX4_holds_13 : decode cX4_holds 13 = .ok (.aload_n 0, 1) := by decide +kernel
theorem dX4_holds_14 : decode cX4_holds 14 = .ok (.getfield 21, 3) := by decide +kernel
theorem dX4_holds_17 : decode cX4_holds 17 = .ok (.if_icmp .lt 23, 3) := by decide +kernel
theorem dX4_holds_20 : decode cX4_holds 20 = .ok (.iload_n 2, 1) := by decide +kernel
theorem dX4_holds_21 : decode cX4_holds 21 = .ok (.aload_n 0, 1) := by decide +kernel
theorem dX4_holds_22 : decode cX4_holds 22 = .ok (.getfield 24, 3) := by decide +kernel
theorem dX4_holds_25 : decode cX4_holds 25 = .ok (.if_icmp .lt 15, 3) := by decide +kernel
theorem dX4_holds_28 : decode cX4_holds 28 = .ok (.iload_n 2, 1) := by decide +kernel
theorem dX4_holds_29 : decode cX4_holds 29 = .ok (.aload_n 0, 1) := by decide +kernel
theorem dX4_holds_30 : decode cX4_holds 30 = .ok (.getfield 27, 3) := by decide +kernel
theorem dX4_holds_33 : decode cX4_holds 33 = .ok (.if_icmp .gt 7, 3) := by decide +kernel
theorem dX4_holds_36 : decode cX4_holds 36 = .ok (.iconst 1, 1) := by decide +kernel
theorem dX4_holds_37 : decode cX4_holds 37 = .ok (.goto 4, 3) := by decide +kernel
theorem dX4_holds_40 : decode cX4_holds 40 = .ok (.iconst 0, 1) := by decide +kernel
theorem dX4_holds_41 : decode cX4_holds 41 = .ok (.ireturn, 1) := by decide +kernel
theorem dX4_keepIfRecord_0 : decode cX4_keepIfRecord 0 = .ok (.aload_n 0, 1) := by decide +kernel
theorem dX4_keepIfRecord_1 : decode cX4_keepIfRecord 1 = .ok (.getfield 9, 3) := by decide +kernel
theorem dX4_keepIfRecord_4 : decode cX4_keepIfRecord 4 = .ok (.iconst (-1), 1) := by decide +kernel
theorem dX4_keepIfRecord_5 : decode cX4_keepIfRecord 5 = .ok (.if_icmp .eq 11, 3) := by decide +kernel
theorem dX4_keepIfRecord_8 : decode cX4_keepIfRecord 8 = .ok (.iload_n 1, 1) := by decide +kernel
theorem dX4_keepIfRecord_9 : decode cX4_keepIfRecord 9 = .ok (.aload_n 0, 1) := by decide +kernel
theorem dX4_keepIfRecord_10 : decode cX4_keepIfRecord 10 = .ok (.getfield 9, 3) := by decide +kernel
theorem dX4_keepIfRecord_13 : decode cX4_keepIfRecord 13 = .ok (.if_icmp .ge 8, 3) := by decide +kernel
theorem dX4_keepIfRecord_16 : decode cX4_keepIfRecord 16 = .ok (.aload_n 0, 1) := by decide +kernel
theorem dX4_keepIfRecord_17 : decode cX4_keepIfRecord 17 = .ok (.iload_n 1, 1) := by decide +kernel
theorem dX4_keepIfRecord_18 : decode cX4_keepIfRecord 18 = .ok (.putfield 9, 3) := by decide +kernel
theorem dX4_keepIfRecord_21 : decode cX4_keepIfRecord 21 = .ok (.return_, 1) := by decide +kernel
theorem dX5_init_0 : decode cX5_init 0 = .ok (.aload_n 0, 1) := by decide +kernel
theorem dX5_init_1 : decode cX5_init 1 = .ok (.invokespecial 3, 3) := by decide +kernel
theorem dX5_init_4 : decode cX5_init 4 = .ok (.aload_n 0, 1) := by decide +kernel
theorem dX5_init_5 : decode cX5_init 5 = .ok (.iconst 5, 1) := by decide +kernel
theorem dX5_init_6 : decode cX5_init 6 = .ok (.newarray .int, 2) := by decide +kernel
theorem dX5_init_8 : decode cX5_init 8 = .ok (.putfield 9, 3) := by decide +kernel
theorem dX5_init_11 : decode cX5_init 11 = .ok (.iconst 0, 1) := by decide +kernel
theorem dX5_init_12 : decode cX5_init 12 = .ok (.istore_n 2, 1) := by decide +kernel
theorem dX5_init_13 : decode cX5_init 13 = .ok (.iload_n 2, 1) := by decide +kernel
theorem dX5_init_14 : decode cX5_init 14 = .ok (.aload_n 0, 1) := by decide +kernel
theorem dX5_init_15 : decode cX5_init 15 = .ok (.getfield 9, 3) := by decide +kernel
theorem dX5_init_18 : decode cX5_init 18 = .ok (.arraylength, 1) := by decide +kernel
theorem dX5_init_19 : decode cX5_init 19 = .ok (.if_icmp .ge 16, 3) := by decide +kernel
theorem dX5_init_22 : decode cX5_init 22 = .ok (.aload_n 0, 1) := by decide +kernel
theorem dX5_init_23 : decode cX5_init 23 = .ok (.getfield 9, 3) := by decide +kernel
theorem dX5_init_26 : decode cX5_init 26 = .ok (.iload_n 2, 1) := by decide +kernel
theorem dX5_init_27 : decode cX5_init 27 = .ok (.iload_n 1, 1) := by decide +kernel
theorem dX5_init_28 : decode cX5_init 28 = .ok (.iastore, 1) := by decide +kernel
theorem dX5_init_29 : decode cX5_init 29 = .ok (.iinc 2 1, 3) := by decide +kernel
theorem dX5_init_32 : decode cX5_init 32 = .ok (.goto (-19), 3) := by decide +kernel
theorem dX5_init_35 : decode cX5_init 35 = .ok (.return_, 1) := by decide +kernel
theorem dX5_of_0 : decode cX5_of 0 = .ok (.iload_n 1, 1) := by decide +kernel
theorem dX5_of_1 : decode cX5_of 1 = .ok (.ifCond .lt 21, 3) := by decide +kernel
theorem dX5_of_4 : decode cX5_of 4 = .ok (.iload_n 1, 1) := by decide +kernel
theorem dX5_of_5 : decode cX5_of 5 = .ok (.aload_n 0, 1) := by decide +kernel
theorem dX5_of_6 : decode cX5_of 6 = .ok (.getfield 9, 3) := by decide +kernel
theorem dX5_of_9 : decode cX5_of 9 = .ok (.arraylength, 1) := by decide +kernel
theorem dX5_of_10 : decode cX5_of 10 = .ok (.if_icmp .ge 12, 3) := by decide +kernel
theorem dX5_of_13 : decode cX5_of 13 = .ok (.aload_n 0, 1) := by decide +kernel
theorem dX5_of_14 : decode cX5_of 14 = .ok (.getfield 9, 3) := by decide +kernel
theorem dX5_of_17 : decode cX5_of 17 = .ok (.iload_n 1, 1) := by decide +kernel
theorem dX5_of_18 : decode cX5_of 18 = .ok (.iaload, 1) := by decide +kernel
theorem dX5_of_19 : decode cX5_of 19 = .ok (.goto 5, 3) := by decide +kernel
theorem dX5_of_22 : decode cX5_of 22 = .ok (.bipush 100, 2) := by decide +kernel
theorem dX5_of_24 : decode cX5_of 24 = .ok (.ireturn, 1) := by decide +kernel
theorem dX5_tell_0 : decode cX5_tell 0 = .ok (.iload_n 1, 1) := by decide +kernel
theorem dX5_tell_1 : decode cX5_tell 1 = .ok (.ifCond .lt 19, 3) := by decide +kernel
theorem dX5_tell_4 : decode cX5_tell 4 = .ok (.iload_n 1, 1) := by decide +kernel
theorem dX5_tell_5 : decode cX5_tell 5 = .ok (.aload_n 0, 1) := by decide +kernel
theorem dX5_tell_6 : decode cX5_tell 6 = .ok (.getfield 9, 3) := by decide +kernel
theorem dX5_tell_9 : decode cX5_tell 9 = .ok (.arraylength, 1) := by decide +kernel
theorem dX5_tell_10 : decode cX5_tell 10 = .ok (.if_icmp .ge 10, 3) := by decide +kernel
theorem dX5_tell_13 : decode cX5_tell 13 = .ok (.aload_n 0, 1) := by decide +kernel
theorem dX5_tell_14 : decode cX5_tell 14 = .ok (.getfield 9, 3) := by decide +kernel
theorem dX5_tell_17 : decode cX5_tell 17 = .ok (.iload_n 1, 1) := by decide +kernel
theorem dX5_tell_18 : decode cX5_tell 18 = .ok (.iload_n 2, 1) := by decide +kernel
theorem dX5_tell_19 : decode cX5_tell 19 = .ok (.iastore, 1) := by decide +kernel
theorem dX5_tell_20 : decode cX5_tell 20 = .ok (.return_, 1) := by decide +kernel
theorem dX5_lackOf_0 : decode cX5_lackOf 0 = .ok (.bipush 100, 2) := by decide +kernel
theorem dX5_lackOf_2 : decode cX5_lackOf 2 = .ok (.aload_n 0, 1) := by decide +kernel
theorem dX5_lackOf_3 : decode cX5_lackOf 3 = .ok (.iload_n 1, 1) := by decide +kernel
theorem dX5_lackOf_4 : decode cX5_lackOf 4 = .ok (.invokevirtual 15, 3) := by decide +kernel
theorem dX5_lackOf_7 : decode cX5_lackOf 7 = .ok (.isub, 1) := by decide +kernel
theorem dX5_lackOf_8 : decode cX5_lackOf 8 = .ok (.ireturn, 1) := by decide +kernel
theorem dX5_sumOfLacks_0 : decode cX5_sumOfLacks 0 = .ok (.iconst 0, 1) := by decide +kernel
theorem dX5_sumOfLacks_1 : decode cX5_sumOfLacks 1 = .ok (.istore_n 1, 1) := by decide +kernel
theorem dX5_sumOfLacks_2 : decode cX5_sumOfLacks 2 = .ok (.iconst 0, 1) := by decide +kernel
theorem dX5_sumOfLacks_3 : decode cX5_sumOfLacks 3 = .ok (.istore_n 2, 1) := by decide +kernel
theorem dX5_sumOfLacks_4 : decode cX5_sumOfLacks 4 = .ok (.iload_n 2, 1) := by decide +kernel
theorem dX5_sumOfLacks_5 : decode cX5_sumOfLacks 5 = .ok (.aload_n 0, 1) := by decide +kernel
theorem dX5_sumOfLacks_6 : decode cX5_sumOfLacks 6 = .ok (.getfield 9, 3) := by decide +kernel
theorem dX5_sumOfLacks_9 : decode cX5_sumOfLacks 9 = .ok (.arraylength, 1) := by decide +kernel
theorem dX5_sumOfLacks_10 : decode cX5_sumOfLacks 10 = .ok (.if_icmp .ge 21, 3) := by decide +kernel
theorem dX5_sumOfLacks_13 : decode cX5_sumOfLacks 13 = .ok (.iload_n 1, 1) := by decide +kernel
theorem dX5_sumOfLacks_14 : decode cX5_sumOfLacks 14 = .ok (.bipush 100, 2) := by decide +kernel
theorem dX5_sumOfLacks_16 : decode cX5_sumOfLacks 16 = .ok (.aload_n 0, 1) := by decide +kernel
theorem dX5_sumOfLacks_17 : decode cX5_sumOfLacks 17 = .ok (.getfield 9, 3) := by decide +kernel
theorem dX5_sumOfLacks_20 : decode cX5_sumOfLacks 20 = .ok (.iload_n 2, 1) := by decide +kernel
theorem dX5_sumOfLacks_21 : decode cX5_sumOfLacks 21 = .ok (.iaload, 1) := by decide +kernel
theorem dX5_sumOfLacks_22 : decode cX5_sumOfLacks 22 = .ok (.isub, 1) := by decide +kernel
theorem dX5_sumOfLacks_23 : decode cX5_sumOfLacks 23 = .ok (.iadd, 1) := by decide +kernel
theorem dX5_sumOfLacks_24 : decode cX5_sumOfLacks 24 = .ok (.istore_n 1, 1) := by decide +kernel
theorem dX5_sumOfLacks_25 : decode cX5_sumOfLacks 25 = .ok (.iinc 2 1, 3) := by decide +kernel
theorem dX5_sumOfLacks_28 : decode cX5_sumOfLacks 28 = .ok (.goto (-24), 3) := by decide +kernel
theorem dX5_sumOfLacks_31 : decode cX5_sumOfLacks 31 = .ok (.iload_n 1, 1) := by decide +kernel
theorem dX5_sumOfLacks_32 : decode cX5_sumOfLacks 32 = .ok (.ireturn, 1) := by decide +kernel
theorem dX5_isFarAbove_0 : decode cX5_isFarAbove 0 = .ok (.iconst 0, 1) := by decide +kernel
theorem dX5_isFarAbove_1 : decode cX5_isFarAbove 1 = .ok (.istore_n 2, 1) := by decide +kernel
theorem dX5_isFarAbove_2 : decode cX5_isFarAbove 2 = .ok (.iload_n 2, 1) := by decide +kernel
theorem dX5_isFarAbove_3 : decode cX5_isFarAbove 3 = .ok (.iconst 5, 1) := by decide +kernel
theorem dX5_isFarAbove_4 : decode cX5_isFarAbove 4 = .ok (.if_icmp .ge 27, 3) := by decide +kernel
theorem dX5_isFarAbove_7 : decode cX5_isFarAbove 7 = .ok (.aload_n 0, 1) := by decide +kernel
theorem dX5_isFarAbove_8 : decode cX5_isFarAbove 8 = .ok (.iload_n 2, 1) := by decide +kernel
theorem dX5_isFarAbove_9 : decode cX5_isFarAbove 9 = .ok (.invokevirtual 15, 3) := by decide +kernel
theorem dX5_isFarAbove_12 : decode cX5_isFarAbove 12 = .ok (.aload_n 1, 1) := by decide +kernel
theorem dX5_isFarAbove_13 : decode cX5_isFarAbove 13 = .ok (.iload_n 2, 1) := by decide +kernel
theorem dX5_isFarAbove_14 : decode cX5_isFarAbove 14 = .ok (.invokevirtual 15, 3) := by decide +kernel
theorem dX5_isFarAbove_17 : decode cX5_isFarAbove 17 = .ok (.isub, 1) := by decide +kernel
theorem dX5_isFarAbove_18 : decode cX5_isFarAbove 18 = .ok (.bipush 20, 2) := by decide +kernel
theorem dX5_isFarAbove_20 : decode cX5_isFarAbove 20 = .ok (.if_icmp .le 5, 3) := by decide +kernel
theorem dX5_isFarAbove_23 : decode cX5_isFarAbove 23 = .ok (.iconst 1, 1) := by decide +kernel
theorem dX5_isFarAbove_24 : decode cX5_isFarAbove 24 = .ok (.ireturn, 1) := by decide +kernel
theorem dX5_isFarAbove_25 : decode cX5_isFarAbove 25 = .ok (.iinc 2 1, 3) := by decide +kernel
theorem dX5_isFarAbove_28 : decode cX5_isFarAbove 28 = .ok (.goto (-26), 3) := by decide +kernel
theorem dX5_isFarAbove_31 : decode cX5_isFarAbove 31 = .ok (.iconst 0, 1) := by decide +kernel
theorem dX5_isFarAbove_32 : decode cX5_isFarAbove 32 = .ok (.ireturn, 1) := by decide +kernel
theorem dX6_init_0 : decode cX6_init 0 = .ok (.aload_n 0, 1) := by decide +kernel
theorem dX6_init_1 : decode cX6_init 1 = .ok (.invokespecial 1, 3) := by decide +kernel
theorem dX6_init_4 : decode cX6_init 4 = .ok (.aload_n 0, 1) := by decide +kernel
theorem dX6_init_5 : decode cX6_init 5 = .ok (.new 7, 3) := by decide +kernel
theorem dX6_init_8 : decode cX6_init 8 = .ok (.dup, 1) := by decide +kernel
theorem dX6_init_9 : decode cX6_init 9 = .ok (.invokespecial 9, 3) := by decide +kernel
theorem dX6_init_12 : decode cX6_init 12 = .ok (.putfield 10, 3) := by decide +kernel
theorem dX6_init_15 : decode cX6_init 15 = .ok (.aload_n 0, 1) := by decide +kernel
theorem dX6_init_16 : decode cX6_init 16 = .ok (.new 7, 3) := by decide +kernel
theorem dX6_init_19 : decode cX6_init 19 = .ok (.dup, 1) := by decide +kernel
theorem dX6_init_20 : decode cX6_init 20 = .ok (.invokespecial 9, 3) := by decide +kernel
theorem dX6_init_23 : decode cX6_init 23 = .ok (.putfield 16, 3) := by decide +kernel
theorem dX6_init_26 : decode cX6_init 26 = .ok (.aload_n 0, 1) := by decide +kernel
theorem dX6_init_27 : decode cX6_init 27 = .ok (.new 7, 3) := by decide +kernel
theorem dX6_init_30 : decode cX6_init 30 = .ok (.dup, 1) := by decide +kernel
theorem dX6_init_31 : decode cX6_init 31 = .ok (.invokespecial 9, 3) := by decide +kernel
theorem dX6_init_34 : decode cX6_init 34 = .ok (.putfield 19, 3) := by decide +kernel
theorem dX6_init_37 : decode cX6_init 37 = .ok (.aload_n 0, 1) := by decide +kernel
theorem dX6_init_38 : decode cX6_init 38 = .ok (.new 7, 3) := by decide +kernel
theorem dX6_init_41 : decode cX6_init 41 = .ok (.dup, 1) := by decide +kernel
theorem dX6_init_42 : decode cX6_init 42 = .ok (.invokespecial 9, 3) := by decide +kernel
theorem dX6_init_45 : decode cX6_init 45 = .ok (.putfield 22, 3) := by decide +kernel
theorem dX6_init_48 : decode cX6_init 48 = .ok (.aload_n 0, 1) := by decide +kernel
theorem dX6_init_49 : decode cX6_init 49 = .ok (.bipush 6, 2) := by decide +kernel
theorem dX6_init_51 : decode cX6_init 51 = .ok (.newarray .int, 2) := by decide +kernel
theorem dX6_init_53 : decode cX6_init 53 = .ok (.putfield 25, 3) := by decide +kernel
theorem dX6_init_56 : decode cX6_init 56 = .ok (.iconst 0, 1) := by decide +kernel
theorem dX6_init_57 : decode cX6_init 57 = .ok (.istore_n 1, 1) := by decide +kernel
theorem dX6_init_58 : decode cX6_init 58 = .ok (.iload_n 1, 1) := by decide +kernel
theorem dX6_init_59 : decode cX6_init 59 = .ok (.aload_n 0, 1) := by decide +kernel
theorem dX6_init_60 : decode cX6_init 60 = .ok (.getfield 25, 3) := by decide +kernel
theorem dX6_init_63 : decode cX6_init 63 = .ok (.arraylength, 1) := by decide +kernel
theorem dX6_init_64 : decode cX6_init 64 = .ok (.if_icmp .ge 18, 3) := by decide +kernel
theorem dX6_init_67 : decode cX6_init 67 = .ok (.aload_n 0, 1) := by decide +kernel
theorem dX6_init_68 : decode cX6_init 68 = .ok (.getfield 25, 3) := by decide +kernel
theorem dX6_init_71 : decode cX6_init 71 = .ok (.iload_n 1, 1) := by decide +kernel
theorem dX6_init_72 : decode cX6_init 72 = .ok (.sipush 1000, 3) := by decide +kernel
theorem dX6_init_75 : decode cX6_init 75 = .ok (.iastore, 1) := by decide +kernel
theorem dX6_init_76 : decode cX6_init 76 = .ok (.iinc 1 1, 3) := by decide +kernel
theorem dX6_init_79 : decode cX6_init 79 = .ok (.goto (-21), 3) := by decide +kernel
theorem dX6_init_82 : decode cX6_init 82 = .ok (.return_, 1) := by decide +kernel
theorem dX6_athlete_0 : decode cX6_athlete 0 = .ok (.iload_n 1, 1) := by decide +kernel
theorem dX6_athlete_1 : decode cX6_athlete 1 = .ok (.invokestatic 29, 3) := by decide +kernel
theorem dX6_athlete_4 : decode cX6_athlete 4 = .ok (.aload_n 0, 1) := by decide +kernel
theorem dX6_athlete_5 : decode cX6_athlete 5 = .ok (.getfield 10, 3) := by decide +kernel
theorem dX6_athlete_8 : decode cX6_athlete 8 = .ok (.invokevirtual 33, 3) := by decide +kernel
theorem dX6_athlete_11 : decode cX6_athlete 11 = .ok (.bipush 16, 2) := by decide +kernel
theorem dX6_athlete_13 : decode cX6_athlete 13 = .ok (.if_icmp .lt 13, 3) := by decide +kernel
theorem dX6_athlete_16 : decode cX6_athlete 16 = .ok (.new 37, 3) := by decide +kernel
theorem dX6_athlete_19 : decode cX6_athlete 19 = .ok (.dup, 1) := by decide +kernel
theorem dX6_athlete_20 : decode cX6_athlete 20 = .ok (.ldc 39, 2) := by decide +kernel
theorem dX6_athlete_22 : decode cX6_athlete 22 = .ok (.invokespecial 41, 3) := by decide +kernel
theorem dX6_athlete_25 : decode cX6_athlete 25 = .ok (.athrow, 1) := by decide +kernel
theorem dX6_athlete_26 : decode cX6_athlete 26 = .ok (.aload_n 0, 1) := by decide +kernel
theorem dX6_athlete_27 : decode cX6_athlete 27 = .ok (.getfield 10, 3) := by decide +kernel
theorem dX6_athlete_30 : decode cX6_athlete 30 = .ok (.new 44, 3) := by decide +kernel
theorem dX6_athlete_33 : decode cX6_athlete 33 = .ok (.dup, 1) := by decide +kernel
theorem dX6_athlete_34 : decode cX6_athlete 34 = .ok (.aload_n 0, 1) := by decide +kernel
theorem dX6_athlete_35 : decode cX6_athlete 35 = .ok (.getfield 10, 3) := by decide +kernel
theorem dX6_athlete_38 : decode cX6_athlete 38 = .ok (.invokevirtual 33, 3) := by decide +kernel
theorem dX6_athlete_41 : decode cX6_athlete 41 = .ok (.iload_n 1, 1) := by decide +kernel
theorem dX6_athlete_42 : decode cX6_athlete 42 = .ok (.invokespecial 46, 3) := by decide +kernel
theorem dX6_athlete_45 : decode cX6_athlete 45 = .ok (.invokevirtual 49, 3) := by decide +kernel
theorem dX6_athlete_48 : decode cX6_athlete 48 = .ok (.pop, 1) := by decide +kernel
theorem dX6_athlete_49 : decode cX6_athlete 49 = .ok (.aload_n 0, 1) := by decide +kernel
theorem dX6_athlete_50 : decode cX6_athlete 50 = .ok (.getfield 10, 3) := by decide +kernel
theorem dX6_athlete_53 : decode cX6_athlete 53 = .ok (.invokevirtual 33, 3) := by decide +kernel
theorem dX6_athlete_56 : decode cX6_athlete 56 = .ok (.iconst 1, 1) := by decide +kernel
theorem dX6_athlete_57 : decode cX6_athlete 57 = .ok (.isub, 1) := by decide +kernel
theorem dX6_athlete_58 : decode cX6_athlete 58 = .ok (.ireturn, 1) := by decide +kernel
theorem dX6_body_0 : decode cX6_body 0 = .ok (.aload_n 0, 1) := by decide +kernel
theorem dX6_body_1 : decode cX6_body 1 = .ok (.iload_n 1, 1) := by decide +kernel
theorem dX6_body_2 : decode cX6_body 2 = .ok (.invokevirtual 53, 3) := by decide +kernel
theorem dX6_body_5 : decode cX6_body 5 = .ok (.astore 4, 2) := by decide +kernel
theorem dX6_body_7 : decode cX6_body 7 = .ok (.iload_n 2, 1) := by decide +kernel
theorem dX6_body_8 : decode cX6_body 8 = .ok (.invokestatic 57, 3) := by decide +kernel
theorem dX6_body_11 : decode cX6_body 11 = .ok (.iload_n 3, 1) := by decide +kernel
theorem dX6_body_12 : decode cX6_body 12 = .ok (.ifCond .lt 9, 3) := by decide +kernel
theorem dX6_body_15 : decode cX6_body 15 = .ok (.iload_n 3, 1) := by decide +kernel
theorem dX6_body_16 : decode cX6_body 16 = .ok (.bipush 100, 2) := by decide +kernel
theorem dX6_body_18 : decode cX6_body 18 = .ok (.if_icmp .le 13, 3) := by decide +kernel
theorem dX6_body_21 : decode cX6_body 21 = .ok (.new 60, 3) := by decide +kernel
theorem dX6_body_24 : decode cX6_body 24 = .ok (.dup, 1) := by decide +kernel
theorem dX6_body_25 : decode cX6_body 25 = .ok (.ldc 62, 2) := by decide +kernel
theorem dX6_body_27 : decode cX6_body 27 = .ok (.invokespecial 64, 3) := by decide +kernel
theorem dX6_body_30 : decode cX6_body 30 = .ok (.athrow, 1) := by decide +kernel
theorem dX6_body_31 : decode cX6_body 31 = .ok (.aload 4, 2) := by decide +kernel
theorem dX6_body_33 : decode cX6_body 33 = .ok (.getfield 65, 3) := by decide +kernel
theorem dX6_body_36 : decode cX6_body 36 = .ok (.iload_n 2, 1) := by decide +kernel
theorem dX6_body_37 : decode cX6_body 37 = .ok (.invokevirtual 69, 3) := by decide +kernel
theorem dX6_body_40 : decode cX6_body 40 = .ok (.istore 5, 2) := by decide +kernel
theorem dX6_body_42 : decode cX6_body 42 = .ok (.aload 4, 2) := by decide +kernel
theorem dX6_body_44 : decode cX6_body 44 = .ok (.getfield 65, 3) := by decide +kernel
theorem dX6_body_47 : decode cX6_body 47 = .ok (.iload_n 2, 1) := by decide +kernel
theorem dX6_body_48 : decode cX6_body 48 = .ok (.iload_n 3, 1) := by decide +kernel
theorem dX6_body_49 : decode cX6_body 49 = .ok (.invokevirtual 75, 3) := by decide +kernel
theorem dX6_body_52 : decode cX6_body 52 = .ok (.iload 5, 2) := by decide +kernel
theorem dX6_body_54 : decode cX6_body 54 = .ok (.ireturn, 1) := by decide +kernel
theorem dX6_show_0 : decode cX6_show 0 = .ok (.aload_n 0, 1) := by decide +kernel
theorem dX6_show_1 : decode cX6_show 1 = .ok (.iload_n 1, 1) := by decide +kernel
theorem dX6_show_2 : decode cX6_show 2 = .ok (.invokevirtual 53, 3) := by decide +kernel
theorem dX6_show_5 : decode cX6_show 5 = .ok (.astore 4, 2) := by decide +kernel
theorem dX6_show_7 : decode cX6_show 7 = .ok (.iload_n 2, 1) := by decide +kernel
theorem dX6_show_8 : decode cX6_show 8 = .ok (.invokestatic 57, 3) := by decide +kernel
theorem dX6_show_11 : decode cX6_show 11 = .ok (.iload_n 3, 1) := by decide +kernel
theorem dX6_show_12 : decode cX6_show 12 = .ok (.iconst (-1), 1) := by decide +kernel
theorem dX6_show_13 : decode cX6_show 13 = .ok (.if_icmp .eq 23, 3) := by decide +kernel
theorem dX6_show_16 : decode cX6_show 16 = .ok (.iload_n 3, 1) := by decide +kernel
theorem dX6_show_17 : decode cX6_show 17 = .ok (.ifCond .lt 9, 3) := by decide +kernel
theorem dX6_show_20 : decode cX6_show 20 = .ok (.iload_n 3, 1) := by decide +kernel
theorem dX6_show_21 : decode cX6_show 21 = .ok (.bipush 100, 2) := by decide +kernel
theorem dX6_show_23 : decode cX6_show 23 = .ok (.if_icmp .le 13, 3) := by decide +kernel
theorem dX6_show_26 : decode cX6_show 26 = .ok (.new 60, 3) := by decide +kernel
theorem dX6_show_29 : decode cX6_show 29 = .ok (.dup, 1) := by decide +kernel
theorem dX6_show_30 : decode cX6_show 30 = .ok (.ldc 78, 2) := by decide +kernel
theorem dX6_show_32 : decode cX6_show 32 = .ok (.invokespecial 64, 3) := by decide +kernel
theorem dX6_show_35 : decode cX6_show 35 = .ok (.athrow, 1) := by decide +kernel
theorem dX6_show_36 : decode cX6_show 36 = .ok (.aload 4, 2) := by decide +kernel
theorem dX6_show_38 : decode cX6_show 38 = .ok (.iload_n 2, 1) := by decide +kernel
theorem dX6_show_39 : decode cX6_show 39 = .ok (.invokevirtual 80, 3) := by decide +kernel
theorem dX6_show_42 : decode cX6_show 42 = .ok (.istore 5, 2) := by decide +kernel
theorem dX6_show_44 : decode cX6_show 44 = .ok (.aload 4, 2) := by decide +kernel
theorem dX6_show_46 : decode cX6_show 46 = .ok (.getfield 83, 3) := by decide +kernel
theorem dX6_show_49 : decode cX6_show 49 = .ok (.iload_n 2, 1) := by decide +kernel
theorem dX6_show_50 : decode cX6_show 50 = .ok (.iload_n 3, 1) := by decide +kernel
theorem dX6_show_51 : decode cX6_show 51 = .ok (.invokevirtual 75, 3) := by decide +kernel
theorem dX6_show_54 : decode cX6_show 54 = .ok (.iload 5, 2) := by decide +kernel
theorem dX6_show_56 : decode cX6_show 56 = .ok (.ireturn, 1) := by decide +kernel
theorem dX6_found_0 : decode cX6_found 0 = .ok (.aload_n 0, 1) := by decide +kernel
theorem dX6_found_1 : decode cX6_found 1 = .ok (.iload_n 1, 1) := by decide +kernel
theorem dX6_found_2 : decode cX6_found 2 = .ok (.invokevirtual 53, 3) := by decide +kernel
theorem dX6_found_5 : decode cX6_found 5 = .ok (.astore_n 3, 1) := by decide +kernel
theorem dX6_found_6 : decode cX6_found 6 = .ok (.iload_n 2, 1) := by decide +kernel
theorem dX6_found_7 : decode cX6_found 7 = .ok (.invokestatic 57, 3) := by decide +kernel
theorem dX6_found_10 : decode cX6_found 10 = .ok (.aload_n 3, 1) := by decide +kernel
theorem dX6_found_11 : decode cX6_found 11 = .ok (.getfield 86, 3) := by decide +kernel
theorem dX6_found_14 : decode cX6_found 14 = .ok (.ifCond .ne 13, 3) := by decide +kernel
theorem dX6_found_17 : decode cX6_found 17 = .ok (.new 90, 3) := by decide +kernel
theorem dX6_found_20 : decode cX6_found 20 = .ok (.dup, 1) := by decide +kernel
theorem dX6_found_21 : decode cX6_found 21 = .ok (.ldc 92, 2) := by decide +kernel
theorem dX6_found_23 : decode cX6_found 23 = .ok (.invokespecial 94, 3) := by decide +kernel
theorem dX6_found_26 : decode cX6_found 26 = .ok (.athrow, 1) := by decide +kernel
theorem dX6_found_27 : decode cX6_found 27 = .ok (.aload_n 3, 1) := by decide +kernel
theorem dX6_found_28 : decode cX6_found 28 = .ok (.getfield 95, 3) := by decide +kernel
theorem dX6_found_31 : decode cX6_found 31 = .ok (.iload_n 2, 1) := by decide +kernel
theorem dX6_found_32 : decode cX6_found 32 = .ok (.invokevirtual 69, 3) := by decide +kernel
theorem dX6_found_35 : decode cX6_found 35 = .ok (.ireturn, 1) := by decide +kernel
theorem dX6_classifier_0 : decode cX6_classifier 0 = .ok (.iload_n 1, 1) := by decide +kernel
theorem dX6_classifier_1 : decode cX6_classifier 1 = .ok (.invokestatic 29, 3) := by decide +kernel
theorem dX6_classifier_4 : decode cX6_classifier 4 = .ok (.aload_n 0, 1) := by decide +kernel
theorem dX6_classifier_5 : decode cX6_classifier 5 = .ok (.getfield 16, 3) := by decide +kernel
theorem dX6_classifier_8 : decode cX6_classifier 8 = .ok (.invokevirtual 33, 3) := by decide +kernel
theorem dX6_classifier_11 : decode cX6_classifier 11 = .ok (.bipush 8, 2) := by decide +kernel
theorem dX6_classifier_13 : decode cX6_classifier 13 = .ok (.if_icmp .lt 13, 3) := by decide +kernel
theorem dX6_classifier_16 : decode cX6_classifier 16 = .ok (.new 37, 3) := by decide +kernel
theorem dX6_classifier_19 : decode cX6_classifier 19 = .ok (.dup, 1) := by decide +kernel
theorem dX6_classifier_20 : decode cX6_classifier 20 = .ok (.ldc 98, 2) := by decide +kernel
theorem dX6_classifier_22 : decode cX6_classifier 22 = .ok (.invokespecial 41, 3) := by decide +kernel
theorem dX6_classifier_25 : decode cX6_classifier 25 = .ok (.athrow, 1) := by decide +kernel
theorem dX6_classifier_26 : decode cX6_classifier 26 = .ok (.aload_n 0, 1) := by decide +kernel
theorem dX6_classifier_27 : decode cX6_classifier 27 = .ok (.getfield 16, 3) := by decide +kernel
theorem dX6_classifier_30 : decode cX6_classifier 30 = .ok (.new 100, 3) := by decide +kernel
theorem dX6_classifier_33 : decode cX6_classifier 33 = .ok (.dup, 1) := by decide +kernel
theorem dX6_classifier_34 : decode cX6_classifier 34 = .ok (.iload_n 1, 1) := by decide +kernel
theorem dX6_classifier_35 : decode cX6_classifier 35 = .ok (.invokespecial 102, 3) := by decide +kernel
theorem dX6_classifier_38 : decode cX6_classifier 38 = .ok (.invokevirtual 49, 3) := by decide +kernel
theorem dX6_classifier_41 : decode cX6_classifier 41 = .ok (.pop, 1) := by decide +kernel
theorem dX6_classifier_42 : decode cX6_classifier 42 = .ok (.aload_n 0, 1) := by decide +kernel
theorem dX6_classifier_43 : decode cX6_classifier 43 = .ok (.getfield 16, 3) := by decide +kernel
theorem dX6_classifier_46 : decode cX6_classifier 46 = .ok (.invokevirtual 33, 3) := by decide +kernel
theorem dX6_classifier_49 : decode cX6_classifier 49 = .ok (.iconst 1, 1) := by decide +kernel
theorem dX6_classifier_50 : decode cX6_classifier 50 = .ok (.isub, 1) := by decide +kernel
theorem dX6_classifier_51 : decode cX6_classifier 51 = .ok (.ireturn, 1) := by decide +kernel
theorem dX6_kind_0 : decode cX6_kind 0 = .ok (.iload_n 1, 1) := by decide +kernel
theorem dX6_kind_1 : decode cX6_kind 1 = .ok (.invokestatic 57, 3) := by decide +kernel
theorem dX6_kind_4 : decode cX6_kind 4 = .ok (.iload_n 2, 1) := by decide +kernel
theorem dX6_kind_5 : decode cX6_kind 5 = .ok (.iconst 1, 1) := by decide +kernel
theorem dX6_kind_6 : decode cX6_kind 6 = .ok (.if_icmp .lt 9, 3) := by decide +kernel
theorem dX6_kind_9 : decode cX6_kind 9 = .ok (.iload_n 2, 1) := by decide +kernel
theorem dX6_kind_10 : decode cX6_kind 10 = .ok (.bipush 100, 2) := by decide +kernel
theorem dX6_kind_12 : decode cX6_kind 12 = .ok (.if_icmp .le 13, 3) := by decide +kernel
theorem dX6_kind_15 : decode cX6_kind 15 = .ok (.new 60, 3) := by decide +kernel
theorem dX6_kind_18 : decode cX6_kind 18 = .ok (.dup, 1) := by decide +kernel
theorem dX6_kind_19 : decode cX6_kind 19 = .ok (.ldc 104, 2) := by decide +kernel
theorem dX6_kind_21 : decode cX6_kind 21 = .ok (.invokespecial 64, 3) := by decide +kernel
theorem dX6_kind_24 : decode cX6_kind 24 = .ok (.athrow, 1) := by decide +kernel
theorem dX6_kind_25 : decode cX6_kind 25 = .ok (.iload_n 3, 1) := by decide +kernel
theorem dX6_kind_26 : decode cX6_kind 26 = .ok (.iload 4, 2) := by decide +kernel
theorem dX6_kind_28 : decode cX6_kind 28 = .ok (.invokestatic 106, 3) := by decide +kernel
theorem dX6_kind_31 : decode cX6_kind 31 = .ok (.aload_n 0, 1) := by decide +kernel
theorem dX6_kind_32 : decode cX6_kind 32 = .ok (.getfield 19, 3) := by decide +kernel
theorem dX6_kind_35 : decode cX6_kind 35 = .ok (.invokevirtual 33, 3) := by decide +kernel
theorem dX6_kind_38 : decode cX6_kind 38 = .ok (.bipush 8, 2) := by decide +kernel
theorem dX6_kind_40 : decode cX6_kind 40 = .ok (.if_icmp .lt 13, 3) := by decide +kernel
theorem dX6_kind_43 : decode cX6_kind 43 = .ok (.new 37, 3) := by decide +kernel
theorem dX6_kind_46 : decode cX6_kind 46 = .ok (.dup, 1) := by decide +kernel
theorem dX6_kind_47 : decode cX6_kind 47 = .ok (.ldc 109, 2) := by decide +kernel
theorem dX6_kind_49 : decode cX6_kind 49 = .ok (.invokespecial 41, 3) := by decide +kernel
theorem dX6_kind_52 : decode cX6_kind 52 = .ok (.athrow, 1) := by decide +kernel
theorem dX6_kind_53 : decode cX6_kind 53 = .ok (.new 111, 3) := by decide +kernel
theorem dX6_kind_56 : decode cX6_kind 56 = .ok (.dup, 1) := by decide +kernel
theorem dX6_kind_57 : decode cX6_kind 57 = .ok (.aload_n 0, 1) := by decide +kernel
theorem dX6_kind_58 : decode cX6_kind 58 = .ok (.getfield 19, 3) := by decide +kernel
theorem dX6_kind_61 : decode cX6_kind 61 = .ok (.invokevirtual 33, 3) := by decide +kernel
theorem dX6_kind_64 : decode cX6_kind 64 = .ok (.iload_n 1, 1) := by decide +kernel
theorem dX6_kind_65 : decode cX6_kind 65 = .ok (.iload_n 2, 1) := by decide +kernel
theorem dX6_kind_66 : decode cX6_kind 66 = .ok (.invokespecial 113, 3) := by decide +kernel
theorem dX6_kind_69 : decode cX6_kind 69 = .ok (.astore 5, 2) := by decide +kernel
theorem dX6_kind_71 : decode cX6_kind 71 = .ok (.aload 5, 2) := by decide +kernel
theorem dX6_kind_73 : decode cX6_kind 73 = .ok (.iload_n 3, 1) := by decide +kernel
theorem dX6_kind_74 : decode cX6_kind 74 = .ok (.iload 4, 2) := by decide +kernel
theorem dX6_kind_76 : decode cX6_kind 76 = .ok (.invokevirtual 116, 3) := by decide +kernel
theorem dX6_kind_79 : decode cX6_kind 79 = .ok (.aload_n 0, 1) := by decide +kernel
theorem dX6_kind_80 : decode cX6_kind 80 = .ok (.getfield 19, 3) := by decide +kernel
theorem dX6_kind_83 : decode cX6_kind 83 = .ok (.aload 5, 2) := by decide +kernel
theorem dX6_kind_85 : decode cX6_kind 85 = .ok (.invokevirtual 49, 3) := by decide +kernel
theorem dX6_kind_88 : decode cX6_kind 88 = .ok (.pop, 1) := by decide +kernel
theorem dX6_kind_89 : decode cX6_kind 89 = .ok (.aload 5, 2) := by decide +kernel
theorem dX6_kind_91 : decode cX6_kind 91 = .ok (.getfield 119, 3) := by decide +kernel
theorem dX6_kind_94 : decode cX6_kind 94 = .ok (.ireturn, 1) := by decide +kernel
theorem dX6_belongs_0 : decode cX6_belongs 0 = .ok (.aload_n 0, 1) := by decide +kernel
theorem dX6_belongs_1 : decode cX6_belongs 1 = .ok (.aload_n 0, 1) := by decide +kernel
theorem dX6_belongs_2 : decode cX6_belongs 2 = .ok (.iload_n 1, 1) := by decide +kernel
theorem dX6_belongs_3 : decode cX6_belongs 3 = .ok (.invokevirtual 53, 3) := by decide +kernel
theorem dX6_belongs_6 : decode cX6_belongs 6 = .ok (.getfield 65, 3) := by decide +kernel
theorem dX6_belongs_9 : decode cX6_belongs 9 = .ok (.invokevirtual 123, 3) := by decide +kernel
theorem dX6_belongs_12 : decode cX6_belongs 12 = .ok (.invokestatic 127, 3) := by decide +kernel
theorem dX6_belongs_15 : decode cX6_belongs 15 = .ok (.ireturn, 1) := by decide +kernel
theorem dX6_test_0 : decode cX6_test 0 = .ok (.aload_n 0, 1) := by decide +kernel
theorem dX6_test_1 : decode cX6_test 1 = .ok (.iload_n 1, 1) := by decide +kernel
theorem dX6_test_2 : decode cX6_test 2 = .ok (.invokevirtual 53, 3) := by decide +kernel
theorem dX6_test_5 : decode cX6_test 5 = .ok (.astore 4, 2) := by decide +kernel
theorem dX6_test_7 : decode cX6_test 7 = .ok (.aload_n 0, 1) := by decide +kernel
theorem dX6_test_8 : decode cX6_test 8 = .ok (.iload_n 2, 1) := by decide +kernel
theorem dX6_test_9 : decode cX6_test 9 = .ok (.invokevirtual 131, 3) := by decide +kernel
theorem dX6_test_12 : decode cX6_test 12 = .ok (.getfield 135, 3) := by decide +kernel
theorem dX6_test_15 : decode cX6_test 15 = .ok (.istore 5, 2) := by decide +kernel
theorem dX6_test_17 : decode cX6_test 17 = .ok (.aload_n 0, 1) := by decide +kernel
theorem dX6_test_18 : decode cX6_test 18 = .ok (.iload_n 3, 1) := by decide +kernel
theorem dX6_test_19 : decode cX6_test 19 = .ok (.invokevirtual 131, 3) := by decide +kernel
theorem dX6_test_22 : decode cX6_test 22 = .ok (.getfield 135, 3) := by decide +kernel
theorem dX6_test_25 : decode cX6_test 25 = .ok (.istore 6, 2) := by decide +kernel
theorem dX6_test_27 : decode cX6_test 27 = .ok (.iload 5, 2) := by decide +kernel
theorem dX6_test_29 : decode cX6_test 29 = .ok (.iload 6, 2) := by decide +kernel
theorem dX6_test_31 : decode cX6_test 31 = .ok (.if_icmp .eq 23, 3) := by decide +kernel
theorem dX6_test_34 : decode cX6_test 34 = .ok (.iload 5, 2) := by decide +kernel
theorem dX6_test_36 : decode cX6_test 36 = .ok (.aload 4, 2) := by decide +kernel
theorem dX6_test_38 : decode cX6_test 38 = .ok (.getfield 138, 3) := by decide +kernel
theorem dX6_test_41 : decode cX6_test 41 = .ok (.if_icmp .eq 13, 3) := by decide +kernel
theorem dX6_test_44 : decode cX6_test 44 = .ok (.iload 6, 2) := by decide +kernel
theorem dX6_test_46 : decode cX6_test 46 = .ok (.aload 4, 2) := by decide +kernel
theorem dX6_test_48 : decode cX6_test 48 = .ok (.getfield 138, 3) := by decide +kernel
theorem dX6_test_51 : decode cX6_test 51 = .ok (.if_icmp .ne 13, 3) := by decide +kernel
theorem dX6_test_54 : decode cX6_test 54 = .ok (.new 60, 3) := by decide +kernel
theorem dX6_test_57 : decode cX6_test 57 = .ok (.dup, 1) := by decide +kernel
theorem dX6_test_58 : decode cX6_test 58 = .ok (.ldc 139, 2) := by decide +kernel
theorem dX6_test_60 : decode cX6_test 60 = .ok (.invokespecial 64, 3) := by decide +kernel
theorem dX6_test_63 : decode cX6_test 63 = .ok (.athrow, 1) := by decide +kernel
theorem dX6_test_64 : decode cX6_test 64 = .ok (.aload 4, 2) := by decide +kernel
theorem dX6_test_66 : decode cX6_test 66 = .ok (.getfield 141, 3) := by decide +kernel
theorem dX6_test_69 : decode cX6_test 69 = .ok (.bipush 120, 2) := by decide +kernel
theorem dX6_test_71 : decode cX6_test 71 = .ok (.if_icmp .ne 13, 3) := by decide +kernel
theorem dX6_test_74 : decode cX6_test 74 = .ok (.new 145, 3) := by decide +kernel
theorem dX6_test_77 : decode cX6_test 77 = .ok (.dup, 1) := by decide +kernel
theorem dX6_test_78 : decode cX6_test 78 = .ok (.ldc 147, 2) := by decide +kernel
theorem dX6_test_80 : decode cX6_test 80 = .ok (.invokespecial 149, 3) := by decide +kernel
theorem dX6_test_83 : decode cX6_test 83 = .ok (.athrow, 1) := by decide +kernel
theorem dX6_test_84 : decode cX6_test 84 = .ok (.aload 4, 2) := by decide +kernel
theorem dX6_test_86 : decode cX6_test 86 = .ok (.invokevirtual 150, 3) := by decide +kernel
theorem dX6_test_89 : decode cX6_test 89 = .ok (.aload_n 0, 1) := by decide +kernel
theorem dX6_test_90 : decode cX6_test 90 = .ok (.aload 4, 2) := by decide +kernel
theorem dX6_test_92 : decode cX6_test 92 = .ok (.bipush 110, 2) := by decide +kernel
theorem dX6_test_94 : decode cX6_test 94 = .ok (.invokevirtual 153, 3) := by decide +kernel
theorem dX6_test_97 : decode cX6_test 97 = .ok (.aload 4, 2) := by decide +kernel
theorem dX6_test_99 : decode cX6_test 99 = .ok (.getfield 141, 3) := by decide +kernel
theorem dX6_test_102 : decode cX6_test 102 = .ok (.ireturn, 1) := by decide +kernel
theorem dX6_status_0 : decode cX6_status 0 = .ok (.aload_n 0, 1) := by decide +kernel
theorem dX6_status_1 : decode cX6_status 1 = .ok (.iload_n 1, 1) := by decide +kernel
theorem dX6_status_2 : decode cX6_status 2 = .ok (.invokevirtual 53, 3) := by decide +kernel
theorem dX6_status_5 : decode cX6_status 5 = .ok (.getfield 141, 3) := by decide +kernel
theorem dX6_status_8 : decode cX6_status 8 = .ok (.ireturn, 1) := by decide +kernel
theorem dX6_classOf_0 : decode cX6_classOf 0 = .ok (.aload_n 0, 1) := by decide +kernel
theorem dX6_classOf_1 : decode cX6_classOf 1 = .ok (.iload_n 1, 1) := by decide +kernel
theorem dX6_classOf_2 : decode cX6_classOf 2 = .ok (.invokevirtual 53, 3) := by decide +kernel
theorem dX6_classOf_5 : decode cX6_classOf 5 = .ok (.getfield 157, 3) := by decide +kernel
theorem dX6_classOf_8 : decode cX6_classOf 8 = .ok (.invokestatic 127, 3) := by decide +kernel
theorem dX6_classOf_11 : decode cX6_classOf 11 = .ok (.ireturn, 1) := by decide +kernel
theorem dX6_watch_0 : decode cX6_watch 0 = .ok (.aload_n 0, 1) := by decide +kernel
theorem dX6_watch_1 : decode cX6_watch 1 = .ok (.iload_n 1, 1) := by decide +kernel
theorem dX6_watch_2 : decode cX6_watch 2 = .ok (.invokevirtual 53, 3) := by decide +kernel
theorem dX6_watch_5 : decode cX6_watch 5 = .ok (.astore_n 2, 1) := by decide +kernel
theorem dX6_watch_6 : decode cX6_watch 6 = .ok (.aload_n 2, 1) := by decide +kernel
theorem dX6_watch_7 : decode cX6_watch 7 = .ok (.getfield 141, 3) := by decide +kernel
theorem dX6_watch_10 : decode cX6_watch 10 = .ok (.bipush 110, 2) := by decide +kernel
theorem dX6_watch_12 : decode cX6_watch 12 = .ok (.if_icmp .eq 22, 3) := by decide +kernel
theorem dX6_watch_15 : decode cX6_watch 15 = .ok (.aload_n 2, 1) := by decide +kernel
theorem dX6_watch_16 : decode cX6_watch 16 = .ok (.getfield 141, 3) := by decide +kernel
theorem dX6_watch_19 : decode cX6_watch 19 = .ok (.bipush 114, 2) := by decide +kernel
theorem dX6_watch_21 : decode cX6_watch 21 = .ok (.if_icmp .eq 13, 3) := by decide +kernel
theorem dX6_watch_24 : decode cX6_watch 24 = .ok (.new 145, 3) := by decide +kernel
theorem dX6_watch_27 : decode cX6_watch 27 = .ok (.dup, 1) := by decide +kernel
theorem dX6_watch_28 : decode cX6_watch 28 = .ok (.ldc 161, 2) := by decide +kernel
theorem dX6_watch_30 : decode cX6_watch 30 = .ok (.invokespecial 149, 3) := by decide +kernel
theorem dX6_watch_33 : decode cX6_watch 33 = .ok (.athrow, 1) := by decide +kernel
theorem dX6_watch_34 : decode cX6_watch 34 = .ok (.aload_n 0, 1) := by decide +kernel
theorem dX6_watch_35 : decode cX6_watch 35 = .ok (.aload_n 2, 1) := by decide +kernel
theorem dX6_watch_36 : decode cX6_watch 36 = .ok (.invokevirtual 163, 3) := by decide +kernel
theorem dX6_watch_39 : decode cX6_watch 39 = .ok (.ifCond .ne 13, 3) := by decide +kernel
theorem dX6_watch_42 : decode cX6_watch 42 = .ok (.new 145, 3) := by decide +kernel
theorem dX6_watch_45 : decode cX6_watch 45 = .ok (.dup, 1) := by decide +kernel
theorem dX6_watch_46 : decode cX6_watch 46 = .ok (.ldc 167, 2) := by decide +kernel
theorem dX6_watch_48 : decode cX6_watch 48 = .ok (.invokespecial 149, 3) := by decide +kernel
theorem dX6_watch_51 : decode cX6_watch 51 = .ok (.athrow, 1) := by decide +kernel
theorem dX6_watch_52 : decode cX6_watch 52 = .ok (.aload_n 0, 1) := by decide +kernel
theorem dX6_watch_53 : decode cX6_watch 53 = .ok (.aload_n 2, 1) := by decide +kernel
theorem dX6_watch_54 : decode cX6_watch 54 = .ok (.invokevirtual 169, 3) := by decide +kernel
theorem dX6_watch_57 : decode cX6_watch 57 = .ok (.aload_n 2, 1) := by decide +kernel
theorem dX6_watch_58 : decode cX6_watch 58 = .ok (.getfield 141, 3) := by decide +kernel
theorem dX6_watch_61 : decode cX6_watch 61 = .ok (.ireturn, 1) := by decide +kernel
theorem dX6_protest_0 : decode cX6_protest 0 = .ok (.iload_n 1, 1) := by decide +kernel
theorem dX6_protest_1 : decode cX6_protest 1 = .ok (.invokestatic 29, 3) := by decide +kernel
theorem dX6_protest_4 : decode cX6_protest 4 = .ok (.aload_n 0, 1) := by decide +kernel
theorem dX6_protest_5 : decode cX6_protest 5 = .ok (.iload_n 2, 1) := by decide +kernel
theorem dX6_protest_6 : decode cX6_protest 6 = .ok (.invokevirtual 53, 3) := by decide +kernel
theorem dX6_protest_9 : decode cX6_protest 9 = .ok (.astore_n 3, 1) := by decide +kernel
theorem dX6_protest_10 : decode cX6_protest 10 = .ok (.aload_n 3, 1) := by decide +kernel
theorem dX6_protest_11 : decode cX6_protest 11 = .ok (.invokevirtual 173, 3) := by decide +kernel
theorem dX6_protest_14 : decode cX6_protest 14 = .ok (.ifCond .ne 13, 3) := by decide +kernel
theorem dX6_protest_17 : decode cX6_protest 17 = .ok (.new 145, 3) := by decide +kernel
theorem dX6_protest_20 : decode cX6_protest 20 = .ok (.dup, 1) := by decide +kernel
theorem dX6_protest_21 : decode cX6_protest 21 = .ok (.ldc 177, 2) := by decide +kernel
theorem dX6_protest_23 : decode cX6_protest 23 = .ok (.invokespecial 149, 3) := by decide +kernel
theorem dX6_protest_26 : decode cX6_protest 26 = .ok (.athrow, 1) := by decide +kernel
theorem dX6_protest_27 : decode cX6_protest 27 = .ok (.aload_n 0, 1) := by decide +kernel
theorem dX6_protest_28 : decode cX6_protest 28 = .ok (.getfield 25, 3) := by decide +kernel
theorem dX6_protest_31 : decode cX6_protest 31 = .ok (.iload_n 1, 1) := by decide +kernel
theorem dX6_protest_32 : decode cX6_protest 32 = .ok (.iaload, 1) := by decide +kernel
theorem dX6_protest_33 : decode cX6_protest 33 = .ok (.bipush 100, 2) := by decide +kernel
theorem dX6_protest_35 : decode cX6_protest 35 = .ok (.if_icmp .ge 13, 3) := by decide +kernel
theorem dX6_protest_38 : decode cX6_protest 38 = .ok (.new 145, 3) := by decide +kernel
theorem dX6_protest_41 : decode cX6_protest 41 = .ok (.dup, 1) := by decide +kernel
theorem dX6_protest_42 : decode cX6_protest 42 = .ok (.ldc 179, 2) := by decide +kernel
theorem dX6_protest_44 : decode cX6_protest 44 = .ok (.invokespecial 149, 3) := by decide +kernel
theorem dX6_protest_47 : decode cX6_protest 47 = .ok (.athrow, 1) := by decide +kernel
theorem dX6_protest_48 : decode cX6_protest 48 = .ok (.aload_n 3, 1) := by decide +kernel
theorem dX6_protest_49 : decode cX6_protest 49 = .ok (.getfield 157, 3) := by decide +kernel
theorem dX6_protest_52 : decode cX6_protest 52 = .ok (.astore 4, 2) := by decide +kernel
theorem dX6_protest_54 : decode cX6_protest 54 = .ok (.aload_n 0, 1) := by decide +kernel
theorem dX6_protest_55 : decode cX6_protest 55 = .ok (.aload_n 3, 1) := by decide +kernel
theorem dX6_protest_56 : decode cX6_protest 56 = .ok (.invokevirtual 169, 3) := by decide +kernel
theorem dX6_protest_59 : decode cX6_protest 59 = .ok (.aload_n 3, 1) := by decide +kernel
theorem dX6_protest_60 : decode cX6_protest 60 = .ok (.getfield 157, 3) := by decide +kernel
theorem dX6_protest_63 : decode cX6_protest 63 = .ok (.aload 4, 2) := by decide +kernel
theorem dX6_protest_65 : decode cX6_protest 65 = .ok (.if_acmp .eq 7, 3) := by decide +kernel
theorem dX6_protest_68 : decode cX6_protest 68 = .ok (.iconst 1, 1) := by decide +kernel
theorem dX6_protest_69 : decode cX6_protest 69 = .ok (.goto 4, 3) := by decide +kernel
theorem dX6_protest_72 : decode cX6_protest 72 = .ok (.iconst 0, 1) := by decide +kernel
theorem dX6_protest_73 : decode cX6_protest 73 = .ok (.istore 5, 2) := by decide +kernel
theorem dX6_protest_75 : decode cX6_protest 75 = .ok (.iload 5, 2) := by decide +kernel
theorem dX6_protest_77 : decode cX6_protest 77 = .ok (.ifCond .ne 14, 3) := by decide +kernel
theorem dX6_protest_80 : decode cX6_protest 80 = .ok (.aload_n 0, 1) := by decide +kernel
theorem dX6_protest_81 : decode cX6_protest 81 = .ok (.getfield 25, 3) := by decide +kernel
theorem dX6_protest_84 : decode cX6_protest 84 = .ok (.iload_n 1, 1) := by decide +kernel
theorem dX6_protest_85 : decode cX6_protest 85 = .ok (.dup2, 1) := by decide +kernel
theorem dX6_protest_86 : decode cX6_protest 86 = .ok (.iaload, 1) := by decide +kernel
theorem dX6_protest_87 : decode cX6_protest 87 = .ok (.bipush 100, 2) := by decide +kernel
theorem dX6_protest_89 : decode cX6_protest 89 = .ok (.isub, 1) := by decide +kernel
theorem dX6_protest_90 : decode cX6_protest 90 = .ok (.iastore, 1) := by decide +kernel
theorem dX6_protest_91 : decode cX6_protest 91 = .ok (.iload 5, 2) := by decide +kernel
theorem dX6_protest_93 : decode cX6_protest 93 = .ok (.ireturn, 1) := by decide +kernel
theorem dX6_money_0 : decode cX6_money 0 = .ok (.iload_n 1, 1) := by decide +kernel
theorem dX6_money_1 : decode cX6_money 1 = .ok (.invokestatic 29, 3) := by decide +kernel
theorem dX6_money_4 : decode cX6_money 4 = .ok (.aload_n 0, 1) := by decide +kernel
theorem dX6_money_5 : decode cX6_money 5 = .ok (.getfield 25, 3) := by decide +kernel
theorem dX6_money_8 : decode cX6_money 8 = .ok (.iload_n 1, 1) := by decide +kernel
theorem dX6_money_9 : decode cX6_money 9 = .ok (.iaload, 1) := by decide +kernel
theorem dX6_money_10 : decode cX6_money 10 = .ok (.ireturn, 1) := by decide +kernel
theorem dX6_border_0 : decode cX6_border 0 = .ok (.aload_n 0, 1) := by decide +kernel
theorem dX6_border_1 : decode cX6_border 1 = .ok (.iload_n 1, 1) := by decide +kernel
theorem dX6_border_2 : decode cX6_border 2 = .ok (.invokevirtual 181, 3) := by decide +kernel
theorem dX6_border_5 : decode cX6_border 5 = .ok (.astore 4, 2) := by decide +kernel
theorem dX6_border_7 : decode cX6_border 7 = .ok (.iload_n 2, 1) := by decide +kernel
theorem dX6_border_8 : decode cX6_border 8 = .ok (.iload_n 3, 1) := by decide +kernel
theorem dX6_border_9 : decode cX6_border 9 = .ok (.invokestatic 106, 3) := by decide +kernel
theorem dX6_border_12 : decode cX6_border 12 = .ok (.aload 4, 2) := by decide +kernel
theorem dX6_border_14 : decode cX6_border 14 = .ok (.iload_n 2, 1) := by decide +kernel
theorem dX6_border_15 : decode cX6_border 15 = .ok (.iload_n 3, 1) := by decide +kernel
theorem dX6_border_16 : decode cX6_border 16 = .ok (.invokevirtual 116, 3) := by decide +kernel
theorem dX6_border_19 : decode cX6_border 19 = .ok (.iconst 0, 1) := by decide +kernel
theorem dX6_border_20 : decode cX6_border 20 = .ok (.istore 5, 2) := by decide +kernel
theorem dX6_border_22 : decode cX6_border 22 = .ok (.iconst 0, 1) := by decide +kernel
theorem dX6_border_23 : decode cX6_border 23 = .ok (.istore 6, 2) := by decide +kernel
theorem dX6_border_25 : decode cX6_border 25 = .ok (.iload 6, 2) := by decide +kernel
theorem dX6_border_27 : decode cX6_border 27 = .ok (.aload_n 0, 1) := by decide +kernel
theorem dX6_border_28 : decode cX6_border 28 = .ok (.getfield 10, 3) := by decide +kernel
theorem dX6_border_31 : decode cX6_border 31 = .ok (.invokevirtual 33, 3) := by decide +kernel
theorem dX6_border_34 : decode cX6_border 34 = .ok (.if_icmp .ge 59, 3) := by decide +kernel
theorem dX6_border_37 : decode cX6_border 37 = .ok (.aload_n 0, 1) := by decide +kernel
theorem dX6_border_38 : decode cX6_border 38 = .ok (.getfield 10, 3) := by decide +kernel
theorem dX6_border_41 : decode cX6_border 41 = .ok (.iload 6, 2) := by decide +kernel
theorem dX6_border_43 : decode cX6_border 43 = .ok (.invokevirtual 185, 3) := by decide +kernel
theorem dX6_border_46 : decode cX6_border 46 = .ok (.checkcast 44, 3) := by decide +kernel
theorem dX6_border_49 : decode cX6_border 49 = .ok (.astore 7, 2) := by decide +kernel
theorem dX6_border_51 : decode cX6_border 51 = .ok (.aload 7, 2) := by decide +kernel
theorem dX6_border_53 : decode cX6_border 53 = .ok (.getfield 157, 3) := by decide +kernel
theorem dX6_border_56 : decode cX6_border 56 = .ok (.aload 4, 2) := by decide +kernel
theorem dX6_border_58 : decode cX6_border 58 = .ok (.if_acmp .ne 29, 3) := by decide +kernel
theorem dX6_border_61 : decode cX6_border 61 = .ok (.aload 4, 2) := by decide +kernel
theorem dX6_border_63 : decode cX6_border 63 = .ok (.aload 7, 2) := by decide +kernel
theorem dX6_border_65 : decode cX6_border 65 = .ok (.getfield 95, 3) := by decide +kernel
theorem dX6_border_68 : decode cX6_border 68 = .ok (.invokevirtual 189, 3) := by decide +kernel
theorem dX6_border_71 : decode cX6_border 71 = .ok (.ifCond .ne 16, 3) := by decide +kernel
theorem dX6_border_74 : decode cX6_border 74 = .ok (.aload_n 0, 1) := by decide +kernel
theorem dX6_border_75 : decode cX6_border 75 = .ok (.aload 7, 2) := by decide +kernel
theorem dX6_border_77 : decode cX6_border 77 = .ok (.aload 4, 2) := by decide +kernel
theorem dX6_border_79 : decode cX6_border 79 = .ok (.bipush 114, 2) := by decide +kernel
theorem dX6_border_81 : decode cX6_border 81 = .ok (.invokevirtual 193, 3) := by decide +kernel
theorem dX6_border_84 : decode cX6_border 84 = .ok (.iinc 5 1, 3) := by decide +kernel
theorem dX6_border_87 : decode cX6_border 87 = .ok (.iinc 6 1, 3) := by decide +kernel
theorem dX6_border_90 : decode cX6_border 90 = .ok (.goto (-65), 3) := by decide +kernel
theorem dX6_border_93 : decode cX6_border 93 = .ok (.iload 5, 2) := by decide +kernel
theorem dX6_border_95 : decode cX6_border 95 = .ok (.ireturn, 1) := by decide +kernel
theorem dX6_year_0 : decode cX6_year 0 = .ok (.aload_n 0, 1) := by decide +kernel
theorem dX6_year_1 : decode cX6_year 1 = .ok (.getfield 197, 3) := by decide +kernel
theorem dX6_year_4 : decode cX6_year 4 = .ok (.ireturn, 1) := by decide +kernel
theorem dX6_next_0 : decode cX6_next 0 = .ok (.aload_n 0, 1) := by decide +kernel
theorem dX6_next_1 : decode cX6_next 1 = .ok (.getfield 197, 3) := by decide +kernel
theorem dX6_next_4 : decode cX6_next 4 = .ok (.bipush 40, 2) := by decide +kernel
theorem dX6_next_6 : decode cX6_next 6 = .ok (.if_icmp .lt 13, 3) := by decide +kernel
theorem dX6_next_9 : decode cX6_next 9 = .ok (.new 37, 3) := by decide +kernel
theorem dX6_next_12 : decode cX6_next 12 = .ok (.dup, 1) := by decide +kernel
theorem dX6_next_13 : decode cX6_next 13 = .ok (.ldc 200, 2) := by decide +kernel
theorem dX6_next_15 : decode cX6_next 15 = .ok (.invokespecial 41, 3) := by decide +kernel
theorem dX6_next_18 : decode cX6_next 18 = .ok (.athrow, 1) := by decide +kernel
theorem dX6_next_19 : decode cX6_next 19 = .ok (.aload_n 0, 1) := by decide +kernel
theorem dX6_next_20 : decode cX6_next 20 = .ok (.dup, 1) := by decide +kernel
theorem dX6_next_21 : decode cX6_next 21 = .ok (.getfield 197, 3) := by decide +kernel
theorem dX6_next_24 : decode cX6_next 24 = .ok (.iconst 1, 1) := by decide +kernel
theorem dX6_next_25 : decode cX6_next 25 = .ok (.iadd, 1) := by decide +kernel
theorem dX6_next_26 : decode cX6_next 26 = .ok (.putfield 197, 3) := by decide +kernel
theorem dX6_next_29 : decode cX6_next 29 = .ok (.iconst 0, 1) := by decide +kernel
theorem dX6_next_30 : decode cX6_next 30 = .ok (.istore_n 1, 1) := by decide +kernel
theorem dX6_next_31 : decode cX6_next 31 = .ok (.iload_n 1, 1) := by decide +kernel
theorem dX6_next_32 : decode cX6_next 32 = .ok (.aload_n 0, 1) := by decide +kernel
theorem dX6_next_33 : decode cX6_next 33 = .ok (.getfield 10, 3) := by decide +kernel
theorem dX6_next_36 : decode cX6_next 36 = .ok (.invokevirtual 33, 3) := by decide +kernel
theorem dX6_next_39 : decode cX6_next 39 = .ok (.if_icmp .ge 44, 3) := by decide +kernel
theorem dX6_next_42 : decode cX6_next 42 = .ok (.aload_n 0, 1) := by decide +kernel
theorem dX6_next_43 : decode cX6_next 43 = .ok (.getfield 10, 3) := by decide +kernel
theorem dX6_next_46 : decode cX6_next 46 = .ok (.iload_n 1, 1) := by decide +kernel
theorem dX6_next_47 : decode cX6_next 47 = .ok (.invokevirtual 185, 3) := by decide +kernel
theorem dX6_next_50 : decode cX6_next 50 = .ok (.checkcast 44, 3) := by decide +kernel
theorem dX6_next_53 : decode cX6_next 53 = .ok (.astore_n 2, 1) := by decide +kernel
theorem dX6_next_54 : decode cX6_next 54 = .ok (.aload_n 2, 1) := by decide +kernel
theorem dX6_next_55 : decode cX6_next 55 = .ok (.invokevirtual 202, 3) := by decide +kernel
theorem dX6_next_58 : decode cX6_next 58 = .ok (.ifCond .eq 19, 3) := by decide +kernel
theorem dX6_next_61 : decode cX6_next 61 = .ok (.aload_n 2, 1) := by decide +kernel
theorem dX6_next_62 : decode cX6_next 62 = .ok (.getfield 205, 3) := by decide +kernel
theorem dX6_next_65 : decode cX6_next 65 = .ok (.aload_n 0, 1) := by decide +kernel
theorem dX6_next_66 : decode cX6_next 66 = .ok (.getfield 197, 3) := by decide +kernel
theorem dX6_next_69 : decode cX6_next 69 = .ok (.if_icmp .ne 8, 3) := by decide +kernel
theorem dX6_next_72 : decode cX6_next 72 = .ok (.aload_n 0, 1) := by decide +kernel
theorem dX6_next_73 : decode cX6_next 73 = .ok (.aload_n 2, 1) := by decide +kernel
theorem dX6_next_74 : decode cX6_next 74 = .ok (.invokevirtual 208, 3) := by decide +kernel
theorem dX6_next_77 : decode cX6_next 77 = .ok (.iinc 1 1, 3) := by decide +kernel
theorem dX6_next_80 : decode cX6_next 80 = .ok (.goto (-49), 3) := by decide +kernel
theorem dX6_next_83 : decode cX6_next 83 = .ok (.aload_n 0, 1) := by decide +kernel
theorem dX6_next_84 : decode cX6_next 84 = .ok (.getfield 197, 3) := by decide +kernel
theorem dX6_next_87 : decode cX6_next 87 = .ok (.ireturn, 1) := by decide +kernel
theorem dX6_until_0 : decode cX6_until 0 = .ok (.aload_n 0, 1) := by decide +kernel
theorem dX6_until_1 : decode cX6_until 1 = .ok (.iload_n 1, 1) := by decide +kernel
theorem dX6_until_2 : decode cX6_until 2 = .ok (.invokevirtual 53, 3) := by decide +kernel
theorem dX6_until_5 : decode cX6_until 5 = .ok (.astore_n 2, 1) := by decide +kernel
theorem dX6_until_6 : decode cX6_until 6 = .ok (.aload_n 2, 1) := by decide +kernel
theorem dX6_until_7 : decode cX6_until 7 = .ok (.invokevirtual 202, 3) := by decide +kernel
theorem dX6_until_10 : decode cX6_until 10 = .ok (.ifCond .ne 13, 3) := by decide +kernel
theorem dX6_until_13 : decode cX6_until 13 = .ok (.new 90, 3) := by decide +kernel
theorem dX6_until_16 : decode cX6_until 16 = .ok (.dup, 1) := by decide +kernel
theorem dX6_until_17 : decode cX6_until 17 = .ok (.ldc 211, 2) := by decide +kernel
theorem dX6_until_19 : decode cX6_until 19 = .ok (.invokespecial 94, 3) := by decide +kernel
theorem dX6_until_22 : decode cX6_until 22 = .ok (.athrow, 1) := by decide +kernel
theorem dX6_until_23 : decode cX6_until 23 = .ok (.aload_n 2, 1) := by decide +kernel
theorem dX6_until_24 : decode cX6_until 24 = .ok (.getfield 205, 3) := by decide +kernel
theorem dX6_until_27 : decode cX6_until 27 = .ok (.ireturn, 1) := by decide +kernel
theorem dX6_event_0 : decode cX6_event 0 = .ok (.iload_n 1, 1) := by decide +kernel
theorem dX6_event_1 : decode cX6_event 1 = .ok (.ifCond .eq 17, 3) := by decide +kernel
theorem dX6_event_4 : decode cX6_event 4 = .ok (.iload_n 1, 1) := by decide +kernel
theorem dX6_event_5 : decode cX6_event 5 = .ok (.aload_n 0, 1) := by decide +kernel
theorem dX6_event_6 : decode cX6_event 6 = .ok (.getfield 19, 3) := by decide +kernel
theorem dX6_event_9 : decode cX6_event 9 = .ok (.invokevirtual 33, 3) := by decide +kernel
theorem dX6_event_12 : decode cX6_event 12 = .ok (.invokestatic 213, 3) := by decide +kernel
theorem dX6_event_15 : decode cX6_event 15 = .ok (.ifCond .ne 13, 3) := by decide +kernel
theorem dX6_event_18 : decode cX6_event 18 = .ok (.new 60, 3) := by decide +kernel
theorem dX6_event_21 : decode cX6_event 21 = .ok (.dup, 1) := by decide +kernel
theorem dX6_event_22 : decode cX6_event 22 = .ok (.ldc 217, 2) := by decide +kernel
theorem dX6_event_24 : decode cX6_event 24 = .ok (.invokespecial 64, 3) := by decide +kernel
theorem dX6_event_27 : decode cX6_event 27 = .ok (.athrow, 1) := by decide +kernel
theorem dX6_event_28 : decode cX6_event 28 = .ok (.aload_n 0, 1) := by decide +kernel
theorem dX6_event_29 : decode cX6_event 29 = .ok (.getfield 22, 3) := by decide +kernel
theorem dX6_event_32 : decode cX6_event 32 = .ok (.invokevirtual 33, 3) := by decide +kernel
theorem dX6_event_35 : decode cX6_event 35 = .ok (.bipush 8, 2) := by decide +kernel
theorem dX6_event_37 : decode cX6_event 37 = .ok (.if_icmp .lt 13, 3) := by decide +kernel
theorem dX6_event_40 : decode cX6_event 40 = .ok (.new 37, 3) := by decide +kernel
theorem dX6_event_43 : decode cX6_event 43 = .ok (.dup, 1) := by decide +kernel
theorem dX6_event_44 : decode cX6_event 44 = .ok (.ldc 219, 2) := by decide +kernel
theorem dX6_event_46 : decode cX6_event 46 = .ok (.invokespecial 41, 3) := by decide +kernel
theorem dX6_event_49 : decode cX6_event 49 = .ok (.athrow, 1) := by decide +kernel
theorem dX6_event_50 : decode cX6_event 50 = .ok (.aload_n 0, 1) := by decide +kernel
theorem dX6_event_51 : decode cX6_event 51 = .ok (.getfield 22, 3) := by decide +kernel
theorem dX6_event_54 : decode cX6_event 54 = .ok (.new 221, 3) := by decide +kernel
theorem dX6_event_57 : decode cX6_event 57 = .ok (.dup, 1) := by decide +kernel
theorem dX6_event_58 : decode cX6_event 58 = .ok (.iload_n 1, 1) := by decide +kernel
theorem dX6_event_59 : decode cX6_event 59 = .ok (.invokespecial 223, 3) := by decide +kernel
theorem dX6_event_62 : decode cX6_event 62 = .ok (.invokevirtual 49, 3) := by decide +kernel
theorem dX6_event_65 : decode cX6_event 65 = .ok (.pop, 1) := by decide +kernel
theorem dX6_event_66 : decode cX6_event 66 = .ok (.aload_n 0, 1) := by decide +kernel
theorem dX6_event_67 : decode cX6_event 67 = .ok (.getfield 22, 3) := by decide +kernel
theorem dX6_event_70 : decode cX6_event 70 = .ok (.invokevirtual 33, 3) := by decide +kernel
theorem dX6_event_73 : decode cX6_event 73 = .ok (.iconst 1, 1) := by decide +kernel
theorem dX6_event_74 : decode cX6_event 74 = .ok (.isub, 1) := by decide +kernel
theorem dX6_event_75 : decode cX6_event 75 = .ok (.ireturn, 1) := by decide +kernel
theorem dX6_factor_0 : decode cX6_factor 0 = .ok (.aload_n 0, 1) := by decide +kernel
theorem dX6_factor_1 : decode cX6_factor 1 = .ok (.iload_n 1, 1) := by decide +kernel
theorem dX6_factor_2 : decode cX6_factor 2 = .ok (.invokevirtual 224, 3) := by decide +kernel
theorem dX6_factor_5 : decode cX6_factor 5 = .ok (.astore 4, 2) := by decide +kernel
theorem dX6_factor_7 : decode cX6_factor 7 = .ok (.aload 4, 2) := by decide +kernel
theorem dX6_factor_9 : decode cX6_factor 9 = .ok (.iload_n 2, 1) := by decide +kernel
theorem dX6_factor_10 : decode cX6_factor 10 = .ok (.invokevirtual 228, 3) := by decide +kernel
theorem dX6_factor_13 : decode cX6_factor 13 = .ok (.ifCond .ne 13, 3) := by decide +kernel
theorem dX6_factor_16 : decode cX6_factor 16 = .ok (.new 232, 3) := by decide +kernel
theorem dX6_factor_19 : decode cX6_factor 19 = .ok (.dup, 1) := by decide +kernel
theorem dX6_factor_20 : decode cX6_factor 20 = .ok (.ldc 234, 2) := by decide +kernel
theorem dX6_factor_22 : decode cX6_factor 22 = .ok (.invokespecial 236, 3) := by decide +kernel
theorem dX6_factor_25 : decode cX6_factor 25 = .ok (.athrow, 1) := by decide +kernel
theorem dX6_factor_26 : decode cX6_factor 26 = .ok (.iload_n 3, 1) := by decide +kernel
theorem dX6_factor_27 : decode cX6_factor 27 = .ok (.bipush 50, 2) := by decide +kernel
theorem dX6_factor_29 : decode cX6_factor 29 = .ok (.if_icmp .lt 9, 3) := by decide +kernel
theorem dX6_factor_32 : decode cX6_factor 32 = .ok (.iload_n 3, 1) := by decide +kernel
theorem dX6_factor_33 : decode cX6_factor 33 = .ok (.bipush 100, 2) := by decide +kernel
theorem dX6_factor_35 : decode cX6_factor 35 = .ok (.if_icmp .le 13, 3) := by decide +kernel
theorem dX6_factor_38 : decode cX6_factor 38 = .ok (.new 60, 3) := by decide +kernel
theorem dX6_factor_41 : decode cX6_factor 41 = .ok (.dup, 1) := by decide +kernel
theorem dX6_factor_42 : decode cX6_factor 42 = .ok (.ldc 237, 2) := by decide +kernel
theorem dX6_factor_44 : decode cX6_factor 44 = .ok (.invokespecial 64, 3) := by decide +kernel
theorem dX6_factor_47 : decode cX6_factor 47 = .ok (.athrow, 1) := by decide +kernel
theorem dX6_factor_48 : decode cX6_factor 48 = .ok (.aload 4, 2) := by decide +kernel
theorem dX6_factor_50 : decode cX6_factor 50 = .ok (.getfield 239, 3) := by decide +kernel
theorem dX6_factor_53 : decode cX6_factor 53 = .ok (.ifCond .eq 13, 3) := by decide +kernel
theorem dX6_factor_56 : decode cX6_factor 56 = .ok (.new 145, 3) := by decide +kernel
theorem dX6_factor_59 : decode cX6_factor 59 = .ok (.dup, 1) := by decide +kernel
theorem dX6_factor_60 : decode cX6_factor 60 = .ok (.ldc 242, 2) := by decide +kernel
theorem dX6_factor_62 : decode cX6_factor 62 = .ok (.invokespecial 149, 3) := by decide +kernel
theorem dX6_factor_65 : decode cX6_factor 65 = .ok (.athrow, 1) := by decide +kernel
theorem dX6_factor_66 : decode cX6_factor 66 = .ok (.aload 4, 2) := by decide +kernel
theorem dX6_factor_68 : decode cX6_factor 68 = .ok (.iload_n 2, 1) := by decide +kernel
theorem dX6_factor_69 : decode cX6_factor 69 = .ok (.invokevirtual 244, 3) := by decide +kernel
theorem dX6_factor_72 : decode cX6_factor 72 = .ok (.istore 5, 2) := by decide +kernel
theorem dX6_factor_74 : decode cX6_factor 74 = .ok (.aload 4, 2) := by decide +kernel
theorem dX6_factor_76 : decode cX6_factor 76 = .ok (.iload_n 2, 1) := by decide +kernel
theorem dX6_factor_77 : decode cX6_factor 77 = .ok (.iload_n 3, 1) := by decide +kernel
theorem dX6_factor_78 : decode cX6_factor 78 = .ok (.invokevirtual 247, 3) := by decide +kernel
theorem dX6_factor_81 : decode cX6_factor 81 = .ok (.iload 5, 2) := by decide +kernel
theorem dX6_factor_83 : decode cX6_factor 83 = .ok (.ireturn, 1) := by decide +kernel
theorem dX6_enter_0 : decode cX6_enter 0 = .ok (.aload_n 0, 1) := by decide +kernel
theorem dX6_enter_1 : decode cX6_enter 1 = .ok (.iload_n 1, 1) := by decide +kernel
theorem dX6_enter_2 : decode cX6_enter 2 = .ok (.invokevirtual 224, 3) := by decide +kernel
theorem dX6_enter_5 : decode cX6_enter 5 = .ok (.astore_n 3, 1) := by decide +kernel
theorem dX6_enter_6 : decode cX6_enter 6 = .ok (.aload_n 0, 1) := by decide +kernel
theorem dX6_enter_7 : decode cX6_enter 7 = .ok (.iload_n 2, 1) := by decide +kernel
theorem dX6_enter_8 : decode cX6_enter 8 = .ok (.invokevirtual 53, 3) := by decide +kernel
theorem dX6_enter_11 : decode cX6_enter 11 = .ok (.astore 4, 2) := by decide +kernel
theorem dX6_enter_13 : decode cX6_enter 13 = .ok (.aload_n 3, 1) := by decide +kernel
theorem dX6_enter_14 : decode cX6_enter 14 = .ok (.getfield 239, 3) := by decide +kernel
theorem dX6_enter_17 : decode cX6_enter 17 = .ok (.ifCond .ne 12, 3) := by decide +kernel
theorem dX6_enter_20 : decode cX6_enter 20 = .ok (.aload_n 3, 1) := by decide +kernel
theorem dX6_enter_21 : decode cX6_enter 21 = .ok (.aload 4, 2) := by decide +kernel
theorem dX6_enter_23 : decode cX6_enter 23 = .ok (.invokevirtual 250, 3) := by decide +kernel
theorem dX6_enter_26 : decode cX6_enter 26 = .ok (.ifnull 13, 3) := by decide +kernel
theorem dX6_enter_29 : decode cX6_enter 29 = .ok (.new 145, 3) := by decide +kernel
theorem dX6_enter_32 : decode cX6_enter 32 = .ok (.dup, 1) := by decide +kernel
theorem dX6_enter_33 : decode cX6_enter 33 = .ok (.ldc 254, 2) := by decide +kernel
theorem dX6_enter_35 : decode cX6_enter 35 = .ok (.invokespecial 149, 3) := by decide +kernel
theorem dX6_enter_38 : decode cX6_enter 38 = .ok (.athrow, 1) := by decide +kernel
theorem dX6_enter_39 : decode cX6_enter 39 = .ok (.aload 4, 2) := by decide +kernel
theorem dX6_enter_41 : decode cX6_enter 41 = .ok (.getfield 157, 3) := by decide +kernel
theorem dX6_enter_44 : decode cX6_enter 44 = .ok (.astore 5, 2) := by decide +kernel
theorem dX6_enter_46 : decode cX6_enter 46 = .ok (.aload 4, 2) := by decide +kernel
theorem dX6_enter_48 : decode cX6_enter 48 = .ok (.invokevirtual 173, 3) := by decide +kernel
theorem dX6_enter_51 : decode cX6_enter 51 = .ok (.ifCond .eq 20, 3) := by decide +kernel
theorem dX6_enter_54 : decode cX6_enter 54 = .ok (.aload 5, 2) := by decide +kernel
theorem dX6_enter_56 : decode cX6_enter 56 = .ok (.ifnull 15, 3) := by decide +kernel
theorem dX6_enter_59 : decode cX6_enter 59 = .ok (.aload_n 3, 1) := by decide +kernel
theorem dX6_enter_60 : decode cX6_enter 60 = .ok (.aload 5, 2) := by decide +kernel
theorem dX6_enter_62 : decode cX6_enter 62 = .ok (.getfield 119, 3) := by decide +kernel
theorem dX6_enter_65 : decode cX6_enter 65 = .ok (.invokevirtual 228, 3) := by decide +kernel
theorem dX6_enter_68 : decode cX6_enter 68 = .ok (.ifCond .ne 14, 3) := by decide +kernel
theorem dX6_enter_71 : decode cX6_enter 71 = .ok (.new 145, 3) := by decide +kernel
theorem dX6_enter_74 : decode cX6_enter 74 = .ok (.dup, 1) := by decide +kernel
theorem dX6_enter_75 : decode cX6_enter 75 = .ok (.ldc_w 256, 3) := by decide +kernel
theorem dX6_enter_78 : decode cX6_enter 78 = .ok (.invokespecial 149, 3) := by decide +kernel
theorem dX6_enter_81 : decode cX6_enter 81 = .ok (.athrow, 1) := by decide +kernel
theorem dX6_enter_82 : decode cX6_enter 82 = .ok (.aload_n 3, 1) := by decide +kernel
theorem dX6_enter_83 : decode cX6_enter 83 = .ok (.new 258, 3) := by decide +kernel
theorem dX6_enter_86 : decode cX6_enter 86 = .ok (.dup, 1) := by decide +kernel
theorem dX6_enter_87 : decode cX6_enter 87 = .ok (.aload 4, 2) := by decide +kernel
theorem dX6_enter_89 : decode cX6_enter 89 = .ok (.aload 5, 2) := by decide +kernel
theorem dX6_enter_91 : decode cX6_enter 91 = .ok (.invokespecial 260, 3) := by decide +kernel
theorem dX6_enter_94 : decode cX6_enter 94 = .ok (.invokevirtual 263, 3) := by decide +kernel
theorem dX6_enter_97 : decode cX6_enter 97 = .ok (.aload_n 3, 1) := by decide +kernel
theorem dX6_enter_98 : decode cX6_enter 98 = .ok (.invokevirtual 266, 3) := by decide +kernel
theorem dX6_enter_101 : decode cX6_enter 101 = .ok (.ireturn, 1) := by decide +kernel
theorem dX6_begin_0 : decode cX6_begin 0 = .ok (.aload_n 0, 1) := by decide +kernel
theorem dX6_begin_1 : decode cX6_begin 1 = .ok (.iload_n 1, 1) := by decide +kernel
theorem dX6_begin_2 : decode cX6_begin 2 = .ok (.invokevirtual 224, 3) := by decide +kernel
theorem dX6_begin_5 : decode cX6_begin 5 = .ok (.astore_n 2, 1) := by decide +kernel
theorem dX6_begin_6 : decode cX6_begin 6 = .ok (.aload_n 2, 1) := by decide +kernel
theorem dX6_begin_7 : decode cX6_begin 7 = .ok (.invokevirtual 269, 3) := by decide +kernel
theorem dX6_begin_10 : decode cX6_begin 10 = .ok (.istore_n 3, 1) := by decide +kernel
theorem dX6_begin_11 : decode cX6_begin 11 = .ok (.aload_n 2, 1) := by decide +kernel
theorem dX6_begin_12 : decode cX6_begin 12 = .ok (.getfield 239, 3) := by decide +kernel
theorem dX6_begin_15 : decode cX6_begin 15 = .ok (.ifCond .ne 16, 3) := by decide +kernel
theorem dX6_begin_18 : decode cX6_begin 18 = .ok (.iload_n 3, 1) := by decide +kernel
theorem dX6_begin_19 : decode cX6_begin 19 = .ok (.iconst 3, 1) := by decide +kernel
theorem dX6_begin_20 : decode cX6_begin 20 = .ok (.if_icmp .lt 11, 3) := by decide +kernel
theorem dX6_begin_23 : decode cX6_begin 23 = .ok (.aload_n 2, 1) := by decide +kernel
theorem dX6_begin_24 : decode cX6_begin 24 = .ok (.invokevirtual 272, 3) := by decide +kernel
theorem dX6_begin_27 : decode cX6_begin 27 = .ok (.iconst 2, 1) := by decide +kernel
theorem dX6_begin_28 : decode cX6_begin 28 = .ok (.if_icmp .ge 14, 3) := by decide +kernel
theorem dX6_begin_31 : decode cX6_begin 31 = .ok (.new 145, 3) := by decide +kernel
theorem dX6_begin_34 : decode cX6_begin 34 = .ok (.dup, 1) := by decide +kernel
theorem dX6_begin_35 : decode cX6_begin 35 = .ok (.ldc_w 275, 3) := by decide +kernel
theorem dX6_begin_38 : decode cX6_begin 38 = .ok (.invokespecial 149, 3) := by decide +kernel
theorem dX6_begin_41 : decode cX6_begin 41 = .ok (.athrow, 1) := by decide +kernel
theorem dX6_begin_42 : decode cX6_begin 42 = .ok (.aload_n 2, 1) := by decide +kernel
theorem dX6_begin_43 : decode cX6_begin 43 = .ok (.iconst 1, 1) := by decide +kernel
theorem dX6_begin_44 : decode cX6_begin 44 = .ok (.putfield 239, 3) := by decide +kernel
theorem dX6_begin_47 : decode cX6_begin 47 = .ok (.iload_n 3, 1) := by decide +kernel
theorem dX6_begin_48 : decode cX6_begin 48 = .ok (.ireturn, 1) := by decide +kernel
theorem dX6_result_0 : decode cX6_result 0 = .ok (.aload_n 0, 1) := by decide +kernel
theorem dX6_result_1 : decode cX6_result 1 = .ok (.iload_n 1, 1) := by decide +kernel
theorem dX6_result_2 : decode cX6_result 2 = .ok (.invokevirtual 224, 3) := by decide +kernel
theorem dX6_result_5 : decode cX6_result 5 = .ok (.astore 5, 2) := by decide +kernel
theorem dX6_result_7 : decode cX6_result 7 = .ok (.aload 5, 2) := by decide +kernel
theorem dX6_result_9 : decode cX6_result 9 = .ok (.aload_n 0, 1) := by decide +kernel
theorem dX6_result_10 : decode cX6_result 10 = .ok (.iload_n 2, 1) := by decide +kernel
theorem dX6_result_11 : decode cX6_result 11 = .ok (.invokevirtual 53, 3) := by decide +kernel
theorem dX6_result_14 : decode cX6_result 14 = .ok (.invokevirtual 250, 3) := by decide +kernel
theorem dX6_result_17 : decode cX6_result 17 = .ok (.astore 6, 2) := by decide +kernel
theorem dX6_result_19 : decode cX6_result 19 = .ok (.aload 6, 2) := by decide +kernel
theorem dX6_result_21 : decode cX6_result 21 = .ok (.ifnull 19, 3) := by decide +kernel
theorem dX6_result_24 : decode cX6_result 24 = .ok (.aload 6, 2) := by decide +kernel
theorem dX6_result_26 : decode cX6_result 26 = .ok (.getfield 277, 3) := by decide +kernel
theorem dX6_result_29 : decode cX6_result 29 = .ok (.getfield 278, 3) := by decide +kernel
theorem dX6_result_32 : decode cX6_result 32 = .ok (.iconst 4, 1) := by decide +kernel
theorem dX6_result_33 : decode cX6_result 33 = .ok (.if_icmp .ne 7, 3) := by decide +kernel
theorem dX6_result_36 : decode cX6_result 36 = .ok (.iconst 1, 1) := by decide +kernel
theorem dX6_result_37 : decode cX6_result 37 = .ok (.goto 4, 3) := by decide +kernel
theorem dX6_result_40 : decode cX6_result 40 = .ok (.iconst 0, 1) := by decide +kernel
theorem dX6_result_41 : decode cX6_result 41 = .ok (.istore 7, 2) := by decide +kernel
theorem dX6_result_43 : decode cX6_result 43 = .ok (.iload_n 3, 1) := by decide +kernel
theorem dX6_result_44 : decode cX6_result 44 = .ok (.invokestatic 281, 3) := by decide +kernel
theorem dX6_result_47 : decode cX6_result 47 = .ok (.ifCond .eq 16, 3) := by decide +kernel
theorem dX6_result_50 : decode cX6_result 50 = .ok (.iload 7, 2) := by decide +kernel
theorem dX6_result_52 : decode cX6_result 52 = .ok (.ifCond .eq 22, 3) := by decide +kernel
theorem dX6_result_55 : decode cX6_result 55 = .ok (.iload 4, 2) := by decide +kernel
theorem dX6_result_57 : decode cX6_result 57 = .ok (.invokestatic 281, 3) := by decide +kernel
theorem dX6_result_60 : decode cX6_result 60 = .ok (.ifCond .ne 14, 3) := by decide +kernel
theorem dX6_result_63 : decode cX6_result 63 = .ok (.new 60, 3) := by decide +kernel
theorem dX6_result_66 : decode cX6_result 66 = .ok (.dup, 1) := by decide +kernel
theorem dX6_result_67 : decode cX6_result 67 = .ok (.ldc_w 284, 3) := by decide +kernel
theorem dX6_result_70 : decode cX6_result 70 = .ok (.invokespecial 64, 3) := by decide +kernel
theorem dX6_result_73 : decode cX6_result 73 = .ok (.athrow, 1) := by decide +kernel
theorem dX6_result_74 : decode cX6_result 74 = .ok (.aload 5, 2) := by decide +kernel
theorem dX6_result_76 : decode cX6_result 76 = .ok (.getfield 239, 3) := by decide +kernel
theorem dX6_result_79 : decode cX6_result 79 = .ok (.ifCond .eq 32, 3) := by decide +kernel
theorem dX6_result_82 : decode cX6_result 82 = .ok (.aload 5, 2) := by decide +kernel
theorem dX6_result_84 : decode cX6_result 84 = .ok (.getfield 286, 3) := by decide +kernel
theorem dX6_result_87 : decode cX6_result 87 = .ok (.ifCond .ne 24, 3) := by decide +kernel
theorem dX6_result_90 : decode cX6_result 90 = .ok (.aload 6, 2) := by decide +kernel
theorem dX6_result_92 : decode cX6_result 92 = .ok (.ifnull 19, 3) := by decide +kernel
theorem dX6_result_95 : decode cX6_result 95 = .ok (.aload 6, 2) := by decide +kernel
theorem dX6_result_97 : decode cX6_result 97 = .ok (.getfield 289, 3) := by decide +kernel
theorem dX6_result_100 : decode cX6_result 100 = .ok (.ifCond .ne 11, 3) := by decide +kernel
theorem dX6_result_103 : decode cX6_result 103 = .ok (.aload 6, 2) := by decide +kernel
theorem dX6_result_105 : decode cX6_result 105 = .ok (.invokevirtual 292, 3) := by decide +kernel
theorem dX6_result_108 : decode cX6_result 108 = .ok (.ifCond .eq 14, 3) := by decide +kernel
theorem dX6_result_111 : decode cX6_result 111 = .ok (.new 145, 3) := by decide +kernel
theorem dX6_result_114 : decode cX6_result 114 = .ok (.dup, 1) := by decide +kernel
theorem dX6_result_115 : decode cX6_result 115 = .ok (.ldc_w 295, 3) := by decide +kernel
theorem dX6_result_118 : decode cX6_result 118 = .ok (.invokespecial 149, 3) := by decide +kernel
theorem dX6_result_121 : decode cX6_result 121 = .ok (.athrow, 1) := by decide +kernel
theorem dX6_result_122 : decode cX6_result 122 = .ok (.iload 7, 2) := by decide +kernel
theorem dX6_result_124 : decode cX6_result 124 = .ok (.ifCond .eq 16, 3) := by decide +kernel
theorem dX6_result_127 : decode cX6_result 127 = .ok (.iload 4, 2) := by decide +kernel
theorem dX6_result_129 : decode cX6_result 129 = .ok (.iload_n 3, 1) := by decide +kernel
theorem dX6_result_130 : decode cX6_result 130 = .ok (.if_icmp .ge 10, 3) := by decide +kernel
theorem dX6_result_133 : decode cX6_result 133 = .ok (.aload 6, 2) := by decide +kernel
theorem dX6_result_135 : decode cX6_result 135 = .ok (.invokevirtual 297, 3) := by decide +kernel
theorem dX6_result_138 : decode cX6_result 138 = .ok (.iconst (-1), 1) := by decide +kernel
theorem dX6_result_139 : decode cX6_result 139 = .ok (.ireturn, 1) := by decide +kernel
theorem dX6_result_140 : decode cX6_result 140 = .ok (.aload 6, 2) := by decide +kernel
theorem dX6_result_142 : decode cX6_result 142 = .ok (.iload_n 3, 1) := by decide +kernel
theorem dX6_result_143 : decode cX6_result 143 = .ok (.aload 5, 2) := by decide +kernel
theorem dX6_result_145 : decode cX6_result 145 = .ok (.aload 6, 2) := by decide +kernel
theorem dX6_result_147 : decode cX6_result 147 = .ok (.getfield 277, 3) := by decide +kernel
theorem dX6_result_150 : decode cX6_result 150 = .ok (.getfield 119, 3) := by decide +kernel
theorem dX6_result_153 : decode cX6_result 153 = .ok (.invokevirtual 244, 3) := by decide +kernel
theorem dX6_result_156 : decode cX6_result 156 = .ok (.imul, 1) := by decide +kernel
theorem dX6_result_157 : decode cX6_result 157 = .ok (.bipush 100, 2) := by decide +kernel
theorem dX6_result_159 : decode cX6_result 159 = .ok (.idiv, 1) := by decide +kernel
theorem dX6_result_160 : decode cX6_result 160 = .ok (.putfield 300, 3) := by decide +kernel
theorem dX6_result_163 : decode cX6_result 163 = .ok (.aload 6, 2) := by decide +kernel
theorem dX6_result_165 : decode cX6_result 165 = .ok (.getfield 303, 3) := by decide +kernel
theorem dX6_result_168 : decode cX6_result 168 = .ok (.getfield 141, 3) := by decide +kernel
theorem dX6_result_171 : decode cX6_result 171 = .ok (.bipush 99, 2) := by decide +kernel
theorem dX6_result_173 : decode cX6_result 173 = .ok (.if_icmp .ne 12, 3) := by decide +kernel
theorem dX6_result_176 : decode cX6_result 176 = .ok (.aload 6, 2) := by decide +kernel
theorem dX6_result_178 : decode cX6_result 178 = .ok (.getfield 277, 3) := by decide +kernel
theorem dX6_result_181 : decode cX6_result 181 = .ok (.iload_n 3, 1) := by decide +kernel
theorem dX6_result_182 : decode cX6_result 182 = .ok (.invokevirtual 307, 3) := by decide +kernel
theorem dX6_result_185 : decode cX6_result 185 = .ok (.aload 6, 2) := by decide +kernel
theorem dX6_result_187 : decode cX6_result 187 = .ok (.getfield 300, 3) := by decide +kernel
theorem dX6_result_190 : decode cX6_result 190 = .ok (.ireturn, 1) := by decide +kernel
theorem dX6_fell_0 : decode cX6_fell 0 = .ok (.aload_n 0, 1) := by decide +kernel
theorem dX6_fell_1 : decode cX6_fell 1 = .ok (.iload_n 1, 1) := by decide +kernel
theorem dX6_fell_2 : decode cX6_fell 2 = .ok (.iload_n 2, 1) := by decide +kernel
theorem dX6_fell_3 : decode cX6_fell 3 = .ok (.invokevirtual 310, 3) := by decide +kernel
theorem dX6_fell_6 : decode cX6_fell 6 = .ok (.getfield 289, 3) := by decide +kernel
theorem dX6_fell_9 : decode cX6_fell 9 = .ok (.ireturn, 1) := by decide +kernel
theorem dX6_time_0 : decode cX6_time 0 = .ok (.aload_n 0, 1) := by decide +kernel
theorem dX6_time_1 : decode cX6_time 1 = .ok (.iload_n 1, 1) := by decide +kernel
theorem dX6_time_2 : decode cX6_time 2 = .ok (.iload_n 2, 1) := by decide +kernel
theorem dX6_time_3 : decode cX6_time 3 = .ok (.invokevirtual 314, 3) := by decide +kernel
theorem dX6_time_6 : decode cX6_time 6 = .ok (.getfield 300, 3) := by decide +kernel
theorem dX6_time_9 : decode cX6_time 9 = .ok (.ireturn, 1) := by decide +kernel
theorem dX6_inClass_0 : decode cX6_inClass 0 = .ok (.aload_n 0, 1) := by decide +kernel
theorem dX6_inClass_1 : decode cX6_inClass 1 = .ok (.iload_n 1, 1) := by decide +kernel
theorem dX6_inClass_2 : decode cX6_inClass 2 = .ok (.iload_n 2, 1) := by decide +kernel
theorem dX6_inClass_3 : decode cX6_inClass 3 = .ok (.invokevirtual 310, 3) := by decide +kernel
theorem dX6_inClass_6 : decode cX6_inClass 6 = .ok (.getfield 277, 3) := by decide +kernel
theorem dX6_inClass_9 : decode cX6_inClass 9 = .ok (.getfield 119, 3) := by decide +kernel
theorem dX6_inClass_12 : decode cX6_inClass 12 = .ok (.ireturn, 1) := by decide +kernel
theorem dX6_close_0 : decode cX6_close 0 = .ok (.aload_n 0, 1) := by decide +kernel
theorem dX6_close_1 : decode cX6_close 1 = .ok (.iload_n 1, 1) := by decide +kernel
theorem dX6_close_2 : decode cX6_close 2 = .ok (.invokevirtual 224, 3) := by decide +kernel
theorem dX6_close_5 : decode cX6_close 5 = .ok (.astore_n 2, 1) := by decide +kernel
theorem dX6_close_6 : decode cX6_close 6 = .ok (.aload_n 2, 1) := by decide +kernel
theorem dX6_close_7 : decode cX6_close 7 = .ok (.getfield 239, 3) := by decide +kernel
theorem dX6_close_10 : decode cX6_close 10 = .ok (.ifCond .eq 10, 3) := by decide +kernel
theorem dX6_close_13 : decode cX6_close 13 = .ok (.aload_n 2, 1) := by decide +kernel
theorem dX6_close_14 : decode cX6_close 14 = .ok (.getfield 286, 3) := by decide +kernel
theorem dX6_close_17 : decode cX6_close 17 = .ok (.ifCond .eq 14, 3) := by decide +kernel
theorem dX6_close_20 : decode cX6_close 20 = .ok (.new 145, 3) := by decide +kernel
theorem dX6_close_23 : decode cX6_close 23 = .ok (.dup, 1) := by decide +kernel
theorem dX6_close_24 : decode cX6_close 24 = .ok (.ldc_w 317, 3) := by decide +kernel
theorem dX6_close_27 : decode cX6_close 27 = .ok (.invokespecial 149, 3) := by decide +kernel
theorem dX6_close_30 : decode cX6_close 30 = .ok (.athrow, 1) := by decide +kernel
theorem dX6_close_31 : decode cX6_close 31 = .ok (.aload_n 2, 1) := by decide +kernel
theorem dX6_close_32 : decode cX6_close 32 = .ok (.iconst 1, 1) := by decide +kernel
theorem dX6_close_33 : decode cX6_close 33 = .ok (.putfield 286, 3) := by decide +kernel
theorem dX6_close_36 : decode cX6_close 36 = .ok (.aload_n 2, 1) := by decide +kernel
theorem dX6_close_37 : decode cX6_close 37 = .ok (.invokevirtual 319, 3) := by decide +kernel
theorem dX6_close_40 : decode cX6_close 40 = .ok (.ireturn, 1) := by decide +kernel
theorem dX6_at_0 : decode cX6_at 0 = .ok (.aload_n 0, 1) := by decide +kernel
theorem dX6_at_1 : decode cX6_at 1 = .ok (.iload_n 1, 1) := by decide +kernel
theorem dX6_at_2 : decode cX6_at 2 = .ok (.invokevirtual 224, 3) := by decide +kernel
theorem dX6_at_5 : decode cX6_at 5 = .ok (.iload_n 2, 1) := by decide +kernel
theorem dX6_at_6 : decode cX6_at 6 = .ok (.invokevirtual 322, 3) := by decide +kernel
theorem dX6_at_9 : decode cX6_at 9 = .ok (.astore_n 3, 1) := by decide +kernel
theorem dX6_at_10 : decode cX6_at 10 = .ok (.aload_n 3, 1) := by decide +kernel
theorem dX6_at_11 : decode cX6_at 11 = .ok (.ifnonnull 14, 3) := by decide +kernel
theorem dX6_at_14 : decode cX6_at 14 = .ok (.new 90, 3) := by decide +kernel
theorem dX6_at_17 : decode cX6_at 17 = .ok (.dup, 1) := by decide +kernel
theorem dX6_at_18 : decode cX6_at 18 = .ok (.ldc_w 326, 3) := by decide +kernel
theorem dX6_at_21 : decode cX6_at 21 = .ok (.invokespecial 94, 3) := by decide +kernel
theorem dX6_at_24 : decode cX6_at 24 = .ok (.athrow, 1) := by decide +kernel
theorem dX6_at_25 : decode cX6_at 25 = .ok (.aload_n 3, 1) := by decide +kernel
theorem dX6_at_26 : decode cX6_at 26 = .ok (.getfield 303, 3) := by decide +kernel
theorem dX6_at_29 : decode cX6_at 29 = .ok (.getfield 328, 3) := by decide +kernel
theorem dX6_at_32 : decode cX6_at 32 = .ok (.ireturn, 1) := by decide +kernel
theorem dX6_place_0 : decode cX6_place 0 = .ok (.aload_n 0, 1) := by decide +kernel
theorem dX6_place_1 : decode cX6_place 1 = .ok (.iload_n 1, 1) := by decide +kernel
theorem dX6_place_2 : decode cX6_place 2 = .ok (.iload_n 2, 1) := by decide +kernel
theorem dX6_place_3 : decode cX6_place 3 = .ok (.invokevirtual 314, 3) := by decide +kernel
theorem dX6_place_6 : decode cX6_place 6 = .ok (.astore_n 3, 1) := by decide +kernel
theorem dX6_place_7 : decode cX6_place 7 = .ok (.aload_n 0, 1) := by decide +kernel
theorem dX6_place_8 : decode cX6_place 8 = .ok (.iload_n 1, 1) := by decide +kernel
theorem dX6_place_9 : decode cX6_place 9 = .ok (.invokevirtual 224, 3) := by decide +kernel
theorem dX6_place_12 : decode cX6_place 12 = .ok (.aload_n 3, 1) := by decide +kernel
theorem dX6_place_13 : decode cX6_place 13 = .ok (.invokevirtual 329, 3) := by decide +kernel
theorem dX6_place_16 : decode cX6_place 16 = .ok (.iconst 1, 1) := by decide +kernel
theorem dX6_place_17 : decode cX6_place 17 = .ok (.iadd, 1) := by decide +kernel
theorem dX6_place_18 : decode cX6_place 18 = .ok (.ireturn, 1) := by decide +kernel
theorem dX6_slot_0 : decode cX6_slot 0 = .ok (.aload_n 0, 1) := by decide +kernel
theorem dX6_slot_1 : decode cX6_slot 1 = .ok (.iload_n 1, 1) := by decide +kernel
theorem dX6_slot_2 : decode cX6_slot 2 = .ok (.invokevirtual 224, 3) := by decide +kernel
theorem dX6_slot_5 : decode cX6_slot 5 = .ok (.astore 4, 2) := by decide +kernel
theorem dX6_slot_7 : decode cX6_slot 7 = .ok (.iload_n 2, 1) := by decide +kernel
theorem dX6_slot_8 : decode cX6_slot 8 = .ok (.iconst 1, 1) := by decide +kernel
theorem dX6_slot_9 : decode cX6_slot 9 = .ok (.if_icmp .lt 9, 3) := by decide +kernel
theorem dX6_slot_12 : decode cX6_slot 12 = .ok (.iload_n 2, 1) := by decide +kernel
theorem dX6_slot_13 : decode cX6_slot 13 = .ok (.bipush 16, 2) := by decide +kernel
theorem dX6_slot_15 : decode cX6_slot 15 = .ok (.if_icmp .le 14, 3) := by decide +kernel
theorem dX6_slot_18 : decode cX6_slot 18 = .ok (.new 60, 3) := by decide +kernel
theorem dX6_slot_21 : decode cX6_slot 21 = .ok (.dup, 1) := by decide +kernel
theorem dX6_slot_22 : decode cX6_slot 22 = .ok (.ldc_w 333, 3) := by decide +kernel
theorem dX6_slot_25 : decode cX6_slot 25 = .ok (.invokespecial 64, 3) := by decide +kernel
theorem dX6_slot_28 : decode cX6_slot 28 = .ok (.athrow, 1) := by decide +kernel
theorem dX6_slot_29 : decode cX6_slot 29 = .ok (.iload_n 3, 1) := by decide +kernel
theorem dX6_slot_30 : decode cX6_slot 30 = .ok (.iload_n 2, 1) := by decide +kernel
theorem dX6_slot_31 : decode cX6_slot 31 = .ok (.if_icmp .ge 12, 3) := by decide +kernel
theorem dX6_slot_34 : decode cX6_slot 34 = .ok (.aload 4, 2) := by decide +kernel
theorem dX6_slot_36 : decode cX6_slot 36 = .ok (.iload_n 3, 1) := by decide +kernel
theorem dX6_slot_37 : decode cX6_slot 37 = .ok (.invokevirtual 335, 3) := by decide +kernel
theorem dX6_slot_40 : decode cX6_slot 40 = .ok (.goto 4, 3) := by decide +kernel
theorem dX6_slot_43 : decode cX6_slot 43 = .ok (.aconst_null, 1) := by decide +kernel
theorem dX6_slot_44 : decode cX6_slot 44 = .ok (.astore 5, 2) := by decide +kernel
theorem dX6_slot_46 : decode cX6_slot 46 = .ok (.aload 5, 2) := by decide +kernel
theorem dX6_slot_48 : decode cX6_slot 48 = .ok (.ifnonnull 14, 3) := by decide +kernel
theorem dX6_slot_51 : decode cX6_slot 51 = .ok (.new 90, 3) := by decide +kernel
theorem dX6_slot_54 : decode cX6_slot 54 = .ok (.dup, 1) := by decide +kernel
theorem dX6_slot_55 : decode cX6_slot 55 = .ok (.ldc_w 338, 3) := by decide +kernel
theorem dX6_slot_58 : decode cX6_slot 58 = .ok (.invokespecial 94, 3) := by decide +kernel
theorem dX6_slot_61 : decode cX6_slot 61 = .ok (.athrow, 1) := by decide +kernel
theorem dX6_slot_62 : decode cX6_slot 62 = .ok (.aload 5, 2) := by decide +kernel
theorem dX6_slot_64 : decode cX6_slot 64 = .ok (.getfield 303, 3) := by decide +kernel
theorem dX6_slot_67 : decode cX6_slot 67 = .ok (.getfield 328, 3) := by decide +kernel
theorem dX6_slot_70 : decode cX6_slot 70 = .ok (.ireturn, 1) := by decide +kernel
theorem dX6_record_0 : decode cX6_record 0 = .ok (.aload_n 0, 1) := by decide +kernel
theorem dX6_record_1 : decode cX6_record 1 = .ok (.iload_n 1, 1) := by decide +kernel
theorem dX6_record_2 : decode cX6_record 2 = .ok (.invokevirtual 181, 3) := by decide +kernel
theorem dX6_record_5 : decode cX6_record 5 = .ok (.astore_n 2, 1) := by decide +kernel
theorem dX6_record_6 : decode cX6_record 6 = .ok (.aload_n 2, 1) := by decide +kernel
theorem dX6_record_7 : decode cX6_record 7 = .ok (.getfield 340, 3) := by decide +kernel
theorem dX6_record_10 : decode cX6_record 10 = .ok (.iconst (-1), 1) := by decide +kernel
theorem dX6_record_11 : decode cX6_record 11 = .ok (.if_icmp .ne 14, 3) := by decide +kernel
theorem dX6_record_14 : decode cX6_record 14 = .ok (.new 90, 3) := by decide +kernel
theorem dX6_record_17 : decode cX6_record 17 = .ok (.dup, 1) := by decide +kernel
theorem dX6_record_18 : decode cX6_record 18 = .ok (.ldc_w 343, 3) := by decide +kernel
theorem dX6_record_21 : decode cX6_record 21 = .ok (.invokespecial 94, 3) := by decide +kernel
theorem dX6_record_24 : decode cX6_record 24 = .ok (.athrow, 1) := by decide +kernel
theorem dX6_record_25 : decode cX6_record 25 = .ok (.aload_n 2, 1) := by decide +kernel
theorem dX6_record_26 : decode cX6_record 26 = .ok (.getfield 340, 3) := by decide +kernel
theorem dX6_record_29 : decode cX6_record 29 = .ok (.ireturn, 1) := by decide +kernel
theorem dX6_floor_0 : decode cX6_floor 0 = .ok (.iload_n 1, 1) := by decide +kernel
theorem dX6_floor_1 : decode cX6_floor 1 = .ok (.invokestatic 29, 3) := by decide +kernel
theorem dX6_floor_4 : decode cX6_floor 4 = .ok (.iload_n 2, 1) := by decide +kernel
theorem dX6_floor_5 : decode cX6_floor 5 = .ok (.aload_n 0, 1) := by decide +kernel
theorem dX6_floor_6 : decode cX6_floor 6 = .ok (.getfield 10, 3) := by decide +kernel
theorem dX6_floor_9 : decode cX6_floor 9 = .ok (.invokevirtual 33, 3) := by decide +kernel
theorem dX6_floor_12 : decode cX6_floor 12 = .ok (.invokestatic 213, 3) := by decide +kernel
theorem dX6_floor_15 : decode cX6_floor 15 = .ok (.ifCond .eq 20, 3) := by decide +kernel
theorem dX6_floor_18 : decode cX6_floor 18 = .ok (.iload_n 2, 1) := by decide +kernel
theorem dX6_floor_19 : decode cX6_floor 19 = .ok (.invokestatic 345, 3) := by decide +kernel
theorem dX6_floor_22 : decode cX6_floor 22 = .ok (.iconst 4, 1) := by decide +kernel
theorem dX6_floor_23 : decode cX6_floor 23 = .ok (.if_icmp .gt 12, 3) := by decide +kernel
theorem dX6_floor_26 : decode cX6_floor 26 = .ok (.aload_n 0, 1) := by decide +kernel
theorem dX6_floor_27 : decode cX6_floor 27 = .ok (.iload_n 2, 1) := by decide +kernel
theorem dX6_floor_28 : decode cX6_floor 28 = .ok (.iload_n 1, 1) := by decide +kernel
theorem dX6_floor_29 : decode cX6_floor 29 = .ok (.invokevirtual 350, 3) := by decide +kernel
theorem dX6_floor_32 : decode cX6_floor 32 = .ok (.ifCond .ne 14, 3) := by decide +kernel
theorem dX6_floor_35 : decode cX6_floor 35 = .ok (.new 60, 3) := by decide +kernel
theorem dX6_floor_38 : decode cX6_floor 38 = .ok (.dup, 1) := by decide +kernel
theorem dX6_floor_39 : decode cX6_floor 39 = .ok (.ldc_w 353, 3) := by decide +kernel
theorem dX6_floor_42 : decode cX6_floor 42 = .ok (.invokespecial 64, 3) := by decide +kernel
theorem dX6_floor_45 : decode cX6_floor 45 = .ok (.athrow, 1) := by decide +kernel
theorem dX6_floor_46 : decode cX6_floor 46 = .ok (.aload_n 0, 1) := by decide +kernel
theorem dX6_floor_47 : decode cX6_floor 47 = .ok (.iload_n 2, 1) := by decide +kernel
theorem dX6_floor_48 : decode cX6_floor 48 = .ok (.invokevirtual 355, 3) := by decide +kernel
theorem dX6_floor_51 : decode cX6_floor 51 = .ok (.ifCond .ne 14, 3) := by decide +kernel
theorem dX6_floor_54 : decode cX6_floor 54 = .ok (.new 145, 3) := by decide +kernel
theorem dX6_floor_57 : decode cX6_floor 57 = .ok (.dup, 1) := by decide +kernel
theorem dX6_floor_58 : decode cX6_floor 58 = .ok (.ldc_w 358, 3) := by decide +kernel
theorem dX6_floor_61 : decode cX6_floor 61 = .ok (.invokespecial 149, 3) := by decide +kernel
theorem dX6_floor_64 : decode cX6_floor 64 = .ok (.athrow, 1) := by decide +kernel
theorem dX6_floor_65 : decode cX6_floor 65 = .ok (.aload_n 0, 1) := by decide +kernel
theorem dX6_floor_66 : decode cX6_floor 66 = .ok (.iload_n 2, 1) := by decide +kernel
theorem dX6_floor_67 : decode cX6_floor 67 = .ok (.invokevirtual 360, 3) := by decide +kernel
theorem dX6_floor_70 : decode cX6_floor 70 = .ok (.istore_n 3, 1) := by decide +kernel
theorem dX6_floor_71 : decode cX6_floor 71 = .ok (.iload_n 3, 1) := by decide +kernel
theorem dX6_floor_72 : decode cX6_floor 72 = .ok (.bipush 12, 2) := by decide +kernel
theorem dX6_floor_74 : decode cX6_floor 74 = .ok (.if_icmp .le 14, 3) := by decide +kernel
theorem dX6_floor_77 : decode cX6_floor 77 = .ok (.new 145, 3) := by decide +kernel
theorem dX6_floor_80 : decode cX6_floor 80 = .ok (.dup, 1) := by decide +kernel
theorem dX6_floor_81 : decode cX6_floor 81 = .ok (.ldc_w 363, 3) := by decide +kernel
theorem dX6_floor_84 : decode cX6_floor 84 = .ok (.invokespecial 149, 3) := by decide +kernel
theorem dX6_floor_87 : decode cX6_floor 87 = .ok (.athrow, 1) := by decide +kernel
theorem dX6_floor_88 : decode cX6_floor 88 = .ok (.aload_n 0, 1) := by decide +kernel
theorem dX6_floor_89 : decode cX6_floor 89 = .ok (.iload_n 1, 1) := by decide +kernel
theorem dX6_floor_90 : decode cX6_floor 90 = .ok (.iload_n 2, 1) := by decide +kernel
theorem dX6_floor_91 : decode cX6_floor 91 = .ok (.invokevirtual 365, 3) := by decide +kernel
theorem dX6_floor_94 : decode cX6_floor 94 = .ok (.iload_n 3, 1) := by decide +kernel
theorem dX6_floor_95 : decode cX6_floor 95 = .ok (.ireturn, 1) := by decide +kernel
theorem dX6_swap_0 : decode cX6_swap 0 = .ok (.iload_n 1, 1) := by decide +kernel
theorem dX6_swap_1 : decode cX6_swap 1 = .ok (.invokestatic 29, 3) := by decide +kernel
theorem dX6_swap_4 : decode cX6_swap 4 = .ok (.aload_n 0, 1) := by decide +kernel
theorem dX6_swap_5 : decode cX6_swap 5 = .ok (.iload_n 2, 1) := by decide +kernel
theorem dX6_swap_6 : decode cX6_swap 6 = .ok (.invokevirtual 53, 3) := by decide +kernel
theorem dX6_swap_9 : decode cX6_swap 9 = .ok (.astore 4, 2) := by decide +kernel
theorem dX6_swap_11 : decode cX6_swap 11 = .ok (.aload_n 0, 1) := by decide +kernel
theorem dX6_swap_12 : decode cX6_swap 12 = .ok (.iload_n 3, 1) := by decide +kernel
theorem dX6_swap_13 : decode cX6_swap 13 = .ok (.invokevirtual 53, 3) := by decide +kernel
theorem dX6_swap_16 : decode cX6_swap 16 = .ok (.astore 5, 2) := by decide +kernel
theorem dX6_swap_18 : decode cX6_swap 18 = .ok (.aload 4, 2) := by decide +kernel
theorem dX6_swap_20 : decode cX6_swap 20 = .ok (.getfield 138, 3) := by decide +kernel
theorem dX6_swap_23 : decode cX6_swap 23 = .ok (.iload_n 1, 1) := by decide +kernel
theorem dX6_swap_24 : decode cX6_swap 24 = .ok (.if_icmp .ne 11, 3) := by decide +kernel
theorem dX6_swap_27 : decode cX6_swap 27 = .ok (.aload 4, 2) := by decide +kernel
theorem dX6_swap_29 : decode cX6_swap 29 = .ok (.getfield 368, 3) := by decide +kernel
theorem dX6_swap_32 : decode cX6_swap 32 = .ok (.ifCond .ne 14, 3) := by decide +kernel
theorem dX6_swap_35 : decode cX6_swap 35 = .ok (.new 60, 3) := by decide +kernel
theorem dX6_swap_38 : decode cX6_swap 38 = .ok (.dup, 1) := by decide +kernel
theorem dX6_swap_39 : decode cX6_swap 39 = .ok (.ldc_w 371, 3) := by decide +kernel
theorem dX6_swap_42 : decode cX6_swap 42 = .ok (.invokespecial 64, 3) := by decide +kernel
theorem dX6_swap_45 : decode cX6_swap 45 = .ok (.athrow, 1) := by decide +kernel
theorem dX6_swap_46 : decode cX6_swap 46 = .ok (.aload 5, 2) := by decide +kernel
theorem dX6_swap_48 : decode cX6_swap 48 = .ok (.getfield 138, 3) := by decide +kernel
theorem dX6_swap_51 : decode cX6_swap 51 = .ok (.iload_n 1, 1) := by decide +kernel
theorem dX6_swap_52 : decode cX6_swap 52 = .ok (.if_icmp .ne 11, 3) := by decide +kernel
theorem dX6_swap_55 : decode cX6_swap 55 = .ok (.aload 5, 2) := by decide +kernel
theorem dX6_swap_57 : decode cX6_swap 57 = .ok (.getfield 368, 3) := by decide +kernel
theorem dX6_swap_60 : decode cX6_swap 60 = .ok (.ifCond .eq 14, 3) := by decide +kernel
theorem dX6_swap_63 : decode cX6_swap 63 = .ok (.new 60, 3) := by decide +kernel
theorem dX6_swap_66 : decode cX6_swap 66 = .ok (.dup, 1) := by decide +kernel
theorem dX6_swap_67 : decode cX6_swap 67 = .ok (.ldc_w 373, 3) := by decide +kernel
theorem dX6_swap_70 : decode cX6_swap 70 = .ok (.invokespecial 64, 3) := by decide +kernel
theorem dX6_swap_73 : decode cX6_swap 73 = .ok (.athrow, 1) := by decide +kernel
theorem dX6_swap_74 : decode cX6_swap 74 = .ok (.aload_n 0, 1) := by decide +kernel
theorem dX6_swap_75 : decode cX6_swap 75 = .ok (.aload_n 0, 1) := by decide +kernel
theorem dX6_swap_76 : decode cX6_swap 76 = .ok (.iload_n 1, 1) := by decide +kernel
theorem dX6_swap_77 : decode cX6_swap 77 = .ok (.invokevirtual 375, 3) := by decide +kernel
theorem dX6_swap_80 : decode cX6_swap 80 = .ok (.invokevirtual 360, 3) := by decide +kernel
theorem dX6_swap_83 : decode cX6_swap 83 = .ok (.aload 4, 2) := by decide +kernel
theorem dX6_swap_85 : decode cX6_swap 85 = .ok (.invokevirtual 378, 3) := by decide +kernel
theorem dX6_swap_88 : decode cX6_swap 88 = .ok (.isub, 1) := by decide +kernel
theorem dX6_swap_89 : decode cX6_swap 89 = .ok (.aload 5, 2) := by decide +kernel
theorem dX6_swap_91 : decode cX6_swap 91 = .ok (.invokevirtual 378, 3) := by decide +kernel
theorem dX6_swap_94 : decode cX6_swap 94 = .ok (.iadd, 1) := by decide +kernel
theorem dX6_swap_95 : decode cX6_swap 95 = .ok (.istore 6, 2) := by decide +kernel
theorem dX6_swap_97 : decode cX6_swap 97 = .ok (.aload 5, 2) := by decide +kernel
theorem dX6_swap_99 : decode cX6_swap 99 = .ok (.getfield 157, 3) := by decide +kernel
theorem dX6_swap_102 : decode cX6_swap 102 = .ok (.ifnull 10, 3) := by decide +kernel
theorem dX6_swap_105 : decode cX6_swap 105 = .ok (.iload 6, 2) := by decide +kernel
theorem dX6_swap_107 : decode cX6_swap 107 = .ok (.bipush 12, 2) := by decide +kernel
theorem dX6_swap_109 : decode cX6_swap 109 = .ok (.if_icmp .le 14, 3) := by decide +kernel
theorem dX6_swap_112 : decode cX6_swap 112 = .ok (.new 145, 3) := by decide +kernel
theorem dX6_swap_115 : decode cX6_swap 115 = .ok (.dup, 1) := by decide +kernel
theorem dX6_swap_116 : decode cX6_swap 116 = .ok (.ldc_w 381, 3) := by decide +kernel
theorem dX6_swap_119 : decode cX6_swap 119 = .ok (.invokespecial 149, 3) := by decide +kernel
theorem dX6_swap_122 : decode cX6_swap 122 = .ok (.athrow, 1) := by decide +kernel
theorem dX6_swap_123 : decode cX6_swap 123 = .ok (.aload 4, 2) := by decide +kernel
theorem dX6_swap_125 : decode cX6_swap 125 = .ok (.iconst 0, 1) := by decide +kernel
theorem dX6_swap_126 : decode cX6_swap 126 = .ok (.putfield 368, 3) := by decide +kernel
theorem dX6_swap_129 : decode cX6_swap 129 = .ok (.aload 5, 2) := by decide +kernel
theorem dX6_swap_131 : decode cX6_swap 131 = .ok (.iconst 1, 1) := by decide +kernel
theorem dX6_swap_132 : decode cX6_swap 132 = .ok (.putfield 368, 3) := by decide +kernel
theorem dX6_swap_135 : decode cX6_swap 135 = .ok (.iload 6, 2) := by decide +kernel
theorem dX6_swap_137 : decode cX6_swap 137 = .ok (.ireturn, 1) := by decide +kernel
theorem dX6_onFloor_0 : decode cX6_onFloor 0 = .ok (.iload_n 1, 1) := by decide +kernel
theorem dX6_onFloor_1 : decode cX6_onFloor 1 = .ok (.invokestatic 29, 3) := by decide +kernel
theorem dX6_onFloor_4 : decode cX6_onFloor 4 = .ok (.aload_n 0, 1) := by decide +kernel
theorem dX6_onFloor_5 : decode cX6_onFloor 5 = .ok (.iload_n 1, 1) := by decide +kernel
theorem dX6_onFloor_6 : decode cX6_onFloor 6 = .ok (.invokevirtual 375, 3) := by decide +kernel
theorem dX6_onFloor_9 : decode cX6_onFloor 9 = .ok (.ireturn, 1) := by decide +kernel
theorem dX6_points_0 : decode cX6_points 0 = .ok (.iload_n 1, 1) := by decide +kernel
theorem dX6_points_1 : decode cX6_points 1 = .ok (.invokestatic 29, 3) := by decide +kernel
theorem dX6_points_4 : decode cX6_points 4 = .ok (.aload_n 0, 1) := by decide +kernel
theorem dX6_points_5 : decode cX6_points 5 = .ok (.aload_n 0, 1) := by decide +kernel
theorem dX6_points_6 : decode cX6_points 6 = .ok (.iload_n 1, 1) := by decide +kernel
theorem dX6_points_7 : decode cX6_points 7 = .ok (.invokevirtual 375, 3) := by decide +kernel
theorem dX6_points_10 : decode cX6_points 10 = .ok (.invokevirtual 360, 3) := by decide +kernel
theorem dX6_points_13 : decode cX6_points 13 = .ok (.ireturn, 1) := by decide +kernel
theorem dX6_checksum_0 : decode cX6_checksum 0 = .ok (.ldc2_w 383, 3) := by decide +kernel
theorem dX6_checksum_3 : decode cX6_checksum 3 = .ok (.lstore_n 1, 1) := by decide +kernel
theorem dX6_checksum_4 : decode cX6_checksum 4 = .ok (.iconst 0, 1) := by decide +kernel
theorem dX6_checksum_5 : decode cX6_checksum 5 = .ok (.istore_n 3, 1) := by decide +kernel
theorem dX6_checksum_6 : decode cX6_checksum 6 = .ok (.iload_n 3, 1) := by decide +kernel
theorem dX6_checksum_7 : decode cX6_checksum 7 = .ok (.aload_n 0, 1) := by decide +kernel
theorem dX6_checksum_8 : decode cX6_checksum 8 = .ok (.getfield 10, 3) := by decide +kernel
theorem dX6_checksum_11 : decode cX6_checksum 11 = .ok (.invokevirtual 33, 3) := by decide +kernel
theorem dX6_checksum_14 : decode cX6_checksum 14 = .ok (.if_icmp .ge 51, 3) := by decide +kernel
theorem dX6_checksum_17 : decode cX6_checksum 17 = .ok (.aload_n 0, 1) := by decide +kernel
theorem dX6_checksum_18 : decode cX6_checksum 18 = .ok (.getfield 10, 3) := by decide +kernel
theorem dX6_checksum_21 : decode cX6_checksum 21 = .ok (.iload_n 3, 1) := by decide +kernel
theorem dX6_checksum_22 : decode cX6_checksum 22 = .ok (.invokevirtual 185, 3) := by decide +kernel
theorem dX6_checksum_25 : decode cX6_checksum 25 = .ok (.checkcast 44, 3) := by decide +kernel
theorem dX6_checksum_28 : decode cX6_checksum 28 = .ok (.astore 4, 2) := by decide +kernel
theorem dX6_checksum_30 : decode cX6_checksum 30 = .ok (.ldc2_w 385, 3) := by decide +kernel
theorem dX6_checksum_33 : decode cX6_checksum 33 = .ok (.lload_n 1, 1) := by decide +kernel
theorem dX6_checksum_34 : decode cX6_checksum 34 = .ok (.lmul, 1) := by decide +kernel
theorem dX6_checksum_35 : decode cX6_checksum 35 = .ok (.aload 4, 2) := by decide +kernel
theorem dX6_checksum_37 : decode cX6_checksum 37 = .ok (.getfield 157, 3) := by decide +kernel
theorem dX6_checksum_40 : decode cX6_checksum 40 = .ok (.invokestatic 127, 3) := by decide +kernel
theorem dX6_checksum_43 : decode cX6_checksum 43 = .ok (.i2l, 1) := by decide +kernel
theorem dX6_checksum_44 : decode cX6_checksum 44 = .ok (.ladd, 1) := by decide +kernel
theorem dX6_checksum_45 : decode cX6_checksum 45 = .ok (.lstore_n 1, 1) := by decide +kernel
theorem dX6_checksum_46 : decode cX6_checksum 46 = .ok (.ldc2_w 385, 3) := by decide +kernel
theorem dX6_checksum_49 : decode cX6_checksum 49 = .ok (.lload_n 1, 1) := by decide +kernel
theorem dX6_checksum_50 : decode cX6_checksum 50 = .ok (.lmul, 1) := by decide +kernel
theorem dX6_checksum_51 : decode cX6_checksum 51 = .ok (.aload 4, 2) := by decide +kernel
theorem dX6_checksum_53 : decode cX6_checksum 53 = .ok (.getfield 141, 3) := by decide +kernel
theorem dX6_checksum_56 : decode cX6_checksum 56 = .ok (.i2l, 1) := by decide +kernel
theorem dX6_checksum_57 : decode cX6_checksum 57 = .ok (.ladd, 1) := by decide +kernel
theorem dX6_checksum_58 : decode cX6_checksum 58 = .ok (.lstore_n 1, 1) := by decide +kernel
theorem dX6_checksum_59 : decode cX6_checksum 59 = .ok (.iinc 3 1, 3) := by decide +kernel
theorem dX6_checksum_62 : decode cX6_checksum 62 = .ok (.goto (-56), 3) := by decide +kernel
theorem dX6_checksum_65 : decode cX6_checksum 65 = .ok (.iconst 0, 1) := by decide +kernel
theorem dX6_checksum_66 : decode cX6_checksum 66 = .ok (.istore_n 3, 1) := by decide +kernel
theorem dX6_checksum_67 : decode cX6_checksum 67 = .ok (.iload_n 3, 1) := by decide +kernel
theorem dX6_checksum_68 : decode cX6_checksum 68 = .ok (.aload_n 0, 1) := by decide +kernel
theorem dX6_checksum_69 : decode cX6_checksum 69 = .ok (.getfield 22, 3) := by decide +kernel
theorem dX6_checksum_72 : decode cX6_checksum 72 = .ok (.invokevirtual 33, 3) := by decide +kernel
theorem dX6_checksum_75 : decode cX6_checksum 75 = .ok (.if_icmp .ge 25, 3) := by decide +kernel
theorem dX6_checksum_78 : decode cX6_checksum 78 = .ok (.aload_n 0, 1) := by decide +kernel
theorem dX6_checksum_79 : decode cX6_checksum 79 = .ok (.getfield 22, 3) := by decide +kernel
theorem dX6_checksum_82 : decode cX6_checksum 82 = .ok (.iload_n 3, 1) := by decide +kernel
theorem dX6_checksum_83 : decode cX6_checksum 83 = .ok (.invokevirtual 185, 3) := by decide +kernel
theorem dX6_checksum_86 : decode cX6_checksum 86 = .ok (.checkcast 221, 3) := by decide +kernel
theorem dX6_checksum_89 : decode cX6_checksum 89 = .ok (.lload_n 1, 1) := by decide +kernel
theorem dX6_checksum_90 : decode cX6_checksum 90 = .ok (.invokevirtual 387, 3) := by decide +kernel
theorem dX6_checksum_93 : decode cX6_checksum 93 = .ok (.lstore_n 1, 1) := by decide +kernel
theorem dX6_checksum_94 : decode cX6_checksum 94 = .ok (.iinc 3 1, 3) := by decide +kernel
theorem dX6_checksum_97 : decode cX6_checksum 97 = .ok (.goto (-30), 3) := by decide +kernel
theorem dX6_checksum_100 : decode cX6_checksum 100 = .ok (.iconst 0, 1) := by decide +kernel
theorem dX6_checksum_101 : decode cX6_checksum 101 = .ok (.istore_n 3, 1) := by decide +kernel
theorem dX6_checksum_102 : decode cX6_checksum 102 = .ok (.iload_n 3, 1) := by decide +kernel
theorem dX6_checksum_103 : decode cX6_checksum 103 = .ok (.aload_n 0, 1) := by decide +kernel
theorem dX6_checksum_104 : decode cX6_checksum 104 = .ok (.getfield 25, 3) := by decide +kernel
theorem dX6_checksum_107 : decode cX6_checksum 107 = .ok (.arraylength, 1) := by decide +kernel
theorem dX6_checksum_108 : decode cX6_checksum 108 = .ok (.if_icmp .ge 23, 3) := by decide +kernel
theorem dX6_checksum_111 : decode cX6_checksum 111 = .ok (.ldc2_w 385, 3) := by decide +kernel
theorem dX6_checksum_114 : decode cX6_checksum 114 = .ok (.lload_n 1, 1) := by decide +kernel
theorem dX6_checksum_115 : decode cX6_checksum 115 = .ok (.lmul, 1) := by decide +kernel
theorem dX6_checksum_116 : decode cX6_checksum 116 = .ok (.aload_n 0, 1) := by decide +kernel
theorem dX6_checksum_117 : decode cX6_checksum 117 = .ok (.getfield 25, 3) := by decide +kernel
theorem dX6_checksum_120 : decode cX6_checksum 120 = .ok (.iload_n 3, 1) := by decide +kernel
theorem dX6_checksum_121 : decode cX6_checksum 121 = .ok (.iaload, 1) := by decide +kernel
theorem dX6_checksum_122 : decode cX6_checksum 122 = .ok (.i2l, 1) := by decide +kernel
theorem dX6_checksum_123 : decode cX6_checksum 123 = .ok (.ladd, 1) := by decide +kernel
theorem dX6_checksum_124 : decode cX6_checksum 124 = .ok (.lstore_n 1, 1) := by decide +kernel
theorem dX6_checksum_125 : decode cX6_checksum 125 = .ok (.iinc 3 1, 3) := by decide +kernel
theorem dX6_checksum_128 : decode cX6_checksum 128 = .ok (.goto (-26), 3) := by decide +kernel
theorem dX6_checksum_131 : decode cX6_checksum 131 = .ok (.lload_n 1, 1) := by decide +kernel
theorem dX6_checksum_132 : decode cX6_checksum 132 = .ok (.lreturn, 1) := by decide +kernel
theorem dX6_fallenShare_0 : decode cX6_fallenShare 0 = .ok (.iconst 0, 1) := by decide +kernel
theorem dX6_fallenShare_1 : decode cX6_fallenShare 1 = .ok (.istore_n 1, 1) := by decide +kernel
theorem dX6_fallenShare_2 : decode cX6_fallenShare 2 = .ok (.iconst 0, 1) := by decide +kernel
theorem dX6_fallenShare_3 : decode cX6_fallenShare 3 = .ok (.istore_n 2, 1) := by decide +kernel
theorem dX6_fallenShare_4 : decode cX6_fallenShare 4 = .ok (.iconst 0, 1) := by decide +kernel
theorem dX6_fallenShare_5 : decode cX6_fallenShare 5 = .ok (.istore_n 3, 1) := by decide +kernel
theorem dX6_fallenShare_6 : decode cX6_fallenShare 6 = .ok (.iload_n 3, 1) := by decide +kernel
theorem dX6_fallenShare_7 : decode cX6_fallenShare 7 = .ok (.aload_n 0, 1) := by decide +kernel
theorem dX6_fallenShare_8 : decode cX6_fallenShare 8 = .ok (.getfield 22, 3) := by decide +kernel
theorem dX6_fallenShare_11 : decode cX6_fallenShare 11 = .ok (.invokevirtual 33, 3) := by decide +kernel
theorem dX6_fallenShare_14 : decode cX6_fallenShare 14 = .ok (.if_icmp .ge 43, 3) := by decide +kernel
theorem dX6_fallenShare_17 : decode cX6_fallenShare 17 = .ok (.iload_n 1, 1) := by decide +kernel
theorem dX6_fallenShare_18 : decode cX6_fallenShare 18 = .ok (.aload_n 0, 1) := by decide +kernel
theorem dX6_fallenShare_19 : decode cX6_fallenShare 19 = .ok (.getfield 22, 3) := by decide +kernel
theorem dX6_fallenShare_22 : decode cX6_fallenShare 22 = .ok (.iload_n 3, 1) := by decide +kernel
theorem dX6_fallenShare_23 : decode cX6_fallenShare 23 = .ok (.invokevirtual 185, 3) := by decide +kernel
theorem dX6_fallenShare_26 : decode cX6_fallenShare 26 = .ok (.checkcast 221, 3) := by decide +kernel
theorem dX6_fallenShare_29 : decode cX6_fallenShare 29 = .ok (.invokevirtual 266, 3) := by decide +kernel
theorem dX6_fallenShare_32 : decode cX6_fallenShare 32 = .ok (.iadd, 1) := by decide +kernel
theorem dX6_fallenShare_33 : decode cX6_fallenShare 33 = .ok (.istore_n 1, 1) := by decide +kernel
theorem dX6_fallenShare_34 : decode cX6_fallenShare 34 = .ok (.iload_n 2, 1) := by decide +kernel
theorem dX6_fallenShare_35 : decode cX6_fallenShare 35 = .ok (.aload_n 0, 1) := by decide +kernel
theorem dX6_fallenShare_36 : decode cX6_fallenShare 36 = .ok (.getfield 22, 3) := by decide +kernel
theorem dX6_fallenShare_39 : decode cX6_fallenShare 39 = .ok (.iload_n 3, 1) := by decide +kernel
theorem dX6_fallenShare_40 : decode cX6_fallenShare 40 = .ok (.invokevirtual 185, 3) := by decide +kernel
theorem dX6_fallenShare_43 : decode cX6_fallenShare 43 = .ok (.checkcast 221, 3) := by decide +kernel
theorem dX6_fallenShare_46 : decode cX6_fallenShare 46 = .ok (.invokevirtual 269, 3) := by decide +kernel
theorem dX6_fallenShare_49 : decode cX6_fallenShare 49 = .ok (.iadd, 1) := by decide +kernel
theorem dX6_fallenShare_50 : decode cX6_fallenShare 50 = .ok (.istore_n 2, 1) := by decide +kernel
theorem dX6_fallenShare_51 : decode cX6_fallenShare 51 = .ok (.iinc 3 1, 3) := by decide +kernel
theorem dX6_fallenShare_54 : decode cX6_fallenShare 54 = .ok (.goto (-48), 3) := by decide +kernel
theorem dX6_fallenShare_57 : decode cX6_fallenShare 57 = .ok (.iload_n 1, 1) := by decide +kernel
theorem dX6_fallenShare_58 : decode cX6_fallenShare 58 = .ok (.ifCond .ne 14, 3) := by decide +kernel
theorem dX6_fallenShare_61 : decode cX6_fallenShare 61 = .ok (.new 90, 3) := by decide +kernel
theorem dX6_fallenShare_64 : decode cX6_fallenShare 64 = .ok (.dup, 1) := by decide +kernel
theorem dX6_fallenShare_65 : decode cX6_fallenShare 65 = .ok (.ldc_w 391, 3) := by decide +kernel
theorem dX6_fallenShare_68 : decode cX6_fallenShare 68 = .ok (.invokespecial 94, 3) := by decide +kernel
theorem dX6_fallenShare_71 : decode cX6_fallenShare 71 = .ok (.athrow, 1) := by decide +kernel
theorem dX6_fallenShare_72 : decode cX6_fallenShare 72 = .ok (.iload_n 1, 1) := by decide +kernel
theorem dX6_fallenShare_73 : decode cX6_fallenShare 73 = .ok (.iload_n 2, 1) := by decide +kernel
theorem dX6_fallenShare_74 : decode cX6_fallenShare 74 = .ok (.isub, 1) := by decide +kernel
theorem dX6_fallenShare_75 : decode cX6_fallenShare 75 = .ok (.i2f, 1) := by decide +kernel
theorem dX6_fallenShare_76 : decode cX6_fallenShare 76 = .ok (.iload_n 1, 1) := by decide +kernel
theorem dX6_fallenShare_77 : decode cX6_fallenShare 77 = .ok (.i2f, 1) := by decide +kernel
theorem dX6_fallenShare_78 : decode cX6_fallenShare 78 = .ok (.fdiv, 1) := by decide +kernel
theorem dX6_fallenShare_79 : decode cX6_fallenShare 79 = .ok (.freturn, 1) := by decide +kernel
theorem dX6_meanLack_0 : decode cX6_meanLack 0 = .ok (.aload_n 0, 1) := by decide +kernel
theorem dX6_meanLack_1 : decode cX6_meanLack 1 = .ok (.iload_n 1, 1) := by decide +kernel
theorem dX6_meanLack_2 : decode cX6_meanLack 2 = .ok (.invokevirtual 53, 3) := by decide +kernel
theorem dX6_meanLack_5 : decode cX6_meanLack 5 = .ok (.getfield 65, 3) := by decide +kernel
theorem dX6_meanLack_8 : decode cX6_meanLack 8 = .ok (.invokevirtual 393, 3) := by decide +kernel
theorem dX6_meanLack_11 : decode cX6_meanLack 11 = .ok (.i2d, 1) := by decide +kernel
theorem dX6_meanLack_12 : decode cX6_meanLack 12 = .ok (.ldc2_w 396, 3) := by decide +kernel
theorem dX6_meanLack_15 : decode cX6_meanLack 15 = .ok (.ddiv, 1) := by decide +kernel
theorem dX6_meanLack_16 : decode cX6_meanLack 16 = .ok (.dreturn, 1) := by decide +kernel
theorem dX6_isSound_0 : decode cX6_isSound 0 = .ok (.iconst 0, 1) := by decide +kernel
theorem dX6_isSound_1 : decode cX6_isSound 1 = .ok (.istore_n 1, 1) := by decide +kernel
theorem dX6_isSound_2 : decode cX6_isSound 2 = .ok (.iload_n 1, 1) := by decide +kernel
theorem dX6_isSound_3 : decode cX6_isSound 3 = .ok (.aload_n 0, 1) := by decide +kernel
theorem dX6_isSound_4 : decode cX6_isSound 4 = .ok (.getfield 10, 3) := by decide +kernel
theorem dX6_isSound_7 : decode cX6_isSound 7 = .ok (.invokevirtual 33, 3) := by decide +kernel
theorem dX6_isSound_10 : decode cX6_isSound 10 = .ok (.if_icmp .ge 28, 3) := by decide +kernel
theorem dX6_isSound_13 : decode cX6_isSound 13 = .ok (.aload_n 0, 1) := by decide +kernel
theorem dX6_isSound_14 : decode cX6_isSound 14 = .ok (.getfield 10, 3) := by decide +kernel
theorem dX6_isSound_17 : decode cX6_isSound 17 = .ok (.iload_n 1, 1) := by decide +kernel
theorem dX6_isSound_18 : decode cX6_isSound 18 = .ok (.invokevirtual 185, 3) := by decide +kernel
theorem dX6_isSound_21 : decode cX6_isSound 21 = .ok (.checkcast 44, 3) := by decide +kernel
theorem dX6_isSound_24 : decode cX6_isSound 24 = .ok (.invokevirtual 398, 3) := by decide +kernel
theorem dX6_isSound_27 : decode cX6_isSound 27 = .ok (.ifCond .ne 5, 3) := by decide +kernel
theorem dX6_isSound_30 : decode cX6_isSound 30 = .ok (.iconst 0, 1) := by decide +kernel
theorem dX6_isSound_31 : decode cX6_isSound 31 = .ok (.ireturn, 1) := by decide +kernel
theorem dX6_isSound_32 : decode cX6_isSound 32 = .ok (.iinc 1 1, 3) := by decide +kernel
theorem dX6_isSound_35 : decode cX6_isSound 35 = .ok (.goto (-33), 3) := by decide +kernel
theorem dX6_isSound_38 : decode cX6_isSound 38 = .ok (.iconst 0, 1) := by decide +kernel
theorem dX6_isSound_39 : decode cX6_isSound 39 = .ok (.istore_n 1, 1) := by decide +kernel
theorem dX6_isSound_40 : decode cX6_isSound 40 = .ok (.iload_n 1, 1) := by decide +kernel
theorem dX6_isSound_41 : decode cX6_isSound 41 = .ok (.aload_n 0, 1) := by decide +kernel
theorem dX6_isSound_42 : decode cX6_isSound 42 = .ok (.getfield 22, 3) := by decide +kernel
theorem dX6_isSound_45 : decode cX6_isSound 45 = .ok (.invokevirtual 33, 3) := by decide +kernel
theorem dX6_isSound_48 : decode cX6_isSound 48 = .ok (.if_icmp .ge 28, 3) := by decide +kernel
theorem dX6_isSound_51 : decode cX6_isSound 51 = .ok (.aload_n 0, 1) := by decide +kernel
theorem dX6_isSound_52 : decode cX6_isSound 52 = .ok (.getfield 22, 3) := by decide +kernel
theorem dX6_isSound_55 : decode cX6_isSound 55 = .ok (.iload_n 1, 1) := by decide +kernel
theorem dX6_isSound_56 : decode cX6_isSound 56 = .ok (.invokevirtual 185, 3) := by decide +kernel
theorem dX6_isSound_59 : decode cX6_isSound 59 = .ok (.checkcast 221, 3) := by decide +kernel
theorem dX6_isSound_62 : decode cX6_isSound 62 = .ok (.invokevirtual 401, 3) := by decide +kernel
theorem dX6_isSound_65 : decode cX6_isSound 65 = .ok (.ifCond .ne 5, 3) := by decide +kernel
theorem dX6_isSound_68 : decode cX6_isSound 68 = .ok (.iconst 0, 1) := by decide +kernel
theorem dX6_isSound_69 : decode cX6_isSound 69 = .ok (.ireturn, 1) := by decide +kernel
theorem dX6_isSound_70 : decode cX6_isSound 70 = .ok (.iinc 1 1, 3) := by decide +kernel
theorem dX6_isSound_73 : decode cX6_isSound 73 = .ok (.goto (-33), 3) := by decide +kernel
theorem dX6_isSound_76 : decode cX6_isSound 76 = .ok (.iconst 1, 1) := by decide +kernel
theorem dX6_isSound_77 : decode cX6_isSound 77 = .ok (.ireturn, 1) := by decide +kernel
theorem dX6_needLand_0 : decode cX6_needLand 0 = .ok (.iload_n 0, 1) := by decide +kernel
theorem dX6_needLand_1 : decode cX6_needLand 1 = .ok (.ifCond .lt 9, 3) := by decide +kernel
theorem dX6_needLand_4 : decode cX6_needLand 4 = .ok (.iload_n 0, 1) := by decide +kernel
theorem dX6_needLand_5 : decode cX6_needLand 5 = .ok (.bipush 6, 2) := by decide +kernel
theorem dX6_needLand_7 : decode cX6_needLand 7 = .ok (.if_icmp .lt 14, 3) := by decide +kernel
theorem dX6_needLand_10 : decode cX6_needLand 10 = .ok (.new 232, 3) := by decide +kernel
theorem dX6_needLand_13 : decode cX6_needLand 13 = .ok (.dup, 1) := by decide +kernel
theorem dX6_needLand_14 : decode cX6_needLand 14 = .ok (.ldc_w 402, 3) := by decide +kernel
theorem dX6_needLand_17 : decode cX6_needLand 17 = .ok (.invokespecial 236, 3) := by decide +kernel
theorem dX6_needLand_20 : decode cX6_needLand 20 = .ok (.athrow, 1) := by decide +kernel
theorem dX6_needLand_21 : decode cX6_needLand 21 = .ok (.return_, 1) := by decide +kernel
theorem dX6_needMeasure_0 : decode cX6_needMeasure 0 = .ok (.iload_n 0, 1) := by decide +kernel
theorem dX6_needMeasure_1 : decode cX6_needMeasure 1 = .ok (.ifCond .lt 8, 3) := by decide +kernel
theorem dX6_needMeasure_4 : decode cX6_needMeasure 4 = .ok (.iload_n 0, 1) := by decide +kernel
theorem dX6_needMeasure_5 : decode cX6_needMeasure 5 = .ok (.iconst 5, 1) := by decide +kernel
theorem dX6_needMeasure_6 : decode cX6_needMeasure 6 = .ok (.if_icmp .lt 14, 3) := by decide +kernel
theorem dX6_needMeasure_9 : decode cX6_needMeasure 9 = .ok (.new 60, 3) := by decide +kernel
theorem dX6_needMeasure_12 : decode cX6_needMeasure 12 = .ok (.dup, 1) := by decide +kernel
theorem dX6_needMeasure_13 : decode cX6_needMeasure 13 = .ok (.ldc_w 404, 3) := by decide +kernel
theorem dX6_needMeasure_16 : decode cX6_needMeasure 16 = .ok (.invokespecial 64, 3) := by decide +kernel
theorem dX6_needMeasure_19 : decode cX6_needMeasure 19 = .ok (.athrow, 1) := by decide +kernel
theorem dX6_needMeasure_20 : decode cX6_needMeasure 20 = .ok (.return_, 1) := by decide +kernel
theorem dX6_needBounds_0 : decode cX6_needBounds 0 = .ok (.iload_n 0, 1) := by decide +kernel
theorem dX6_needBounds_1 : decode cX6_needBounds 1 = .ok (.ifCond .lt 15, 3) := by decide +kernel
theorem dX6_needBounds_4 : decode cX6_needBounds 4 = .ok (.iload_n 1, 1) := by decide +kernel
theorem dX6_needBounds_5 : decode cX6_needBounds 5 = .ok (.iload_n 0, 1) := by decide +kernel
theorem dX6_needBounds_6 : decode cX6_needBounds 6 = .ok (.if_icmp .lt 10, 3) := by decide +kernel
theorem dX6_needBounds_9 : decode cX6_needBounds 9 = .ok (.iload_n 1, 1) := by decide +kernel
theorem dX6_needBounds_10 : decode cX6_needBounds 10 = .ok (.sipush 500, 3) := by decide +kernel
theorem dX6_needBounds_13 : decode cX6_needBounds 13 = .ok (.if_icmp .le 14, 3) := by decide +kernel
theorem dX6_needBounds_16 : decode cX6_needBounds 16 = .ok (.new 60, 3) := by decide +kernel
theorem dX6_needBounds_19 : decode cX6_needBounds 19 = .ok (.dup, 1) := by decide +kernel
theorem dX6_needBounds_20 : decode cX6_needBounds 20 = .ok (.ldc_w 406, 3) := by decide +kernel
theorem dX6_needBounds_23 : decode cX6_needBounds 23 = .ok (.invokespecial 64, 3) := by decide +kernel
theorem dX6_needBounds_26 : decode cX6_needBounds 26 = .ok (.athrow, 1) := by decide +kernel
theorem dX6_needBounds_27 : decode cX6_needBounds 27 = .ok (.return_, 1) := by decide +kernel
theorem dX6_needAthlete_0 : decode cX6_needAthlete 0 = .ok (.iload_n 1, 1) := by decide +kernel
theorem dX6_needAthlete_1 : decode cX6_needAthlete 1 = .ok (.ifCond .lt 14, 3) := by decide +kernel
theorem dX6_needAthlete_4 : decode cX6_needAthlete 4 = .ok (.iload_n 1, 1) := by decide +kernel
theorem dX6_needAthlete_5 : decode cX6_needAthlete 5 = .ok (.aload_n 0, 1) := by decide +kernel
theorem dX6_needAthlete_6 : decode cX6_needAthlete 6 = .ok (.getfield 10, 3) := by decide +kernel
theorem dX6_needAthlete_9 : decode cX6_needAthlete 9 = .ok (.invokevirtual 33, 3) := by decide +kernel
theorem dX6_needAthlete_12 : decode cX6_needAthlete 12 = .ok (.if_icmp .lt 14, 3) := by decide +kernel
theorem dX6_needAthlete_15 : decode cX6_needAthlete 15 = .ok (.new 232, 3) := by decide +kernel
theorem dX6_needAthlete_18 : decode cX6_needAthlete 18 = .ok (.dup, 1) := by decide +kernel
theorem dX6_needAthlete_19 : decode cX6_needAthlete 19 = .ok (.ldc_w 408, 3) := by decide +kernel
theorem dX6_needAthlete_22 : decode cX6_needAthlete 22 = .ok (.invokespecial 236, 3) := by decide +kernel
theorem dX6_needAthlete_25 : decode cX6_needAthlete 25 = .ok (.athrow, 1) := by decide +kernel
theorem dX6_needAthlete_26 : decode cX6_needAthlete 26 = .ok (.aload_n 0, 1) := by decide +kernel
theorem dX6_needAthlete_27 : decode cX6_needAthlete 27 = .ok (.getfield 10, 3) := by decide +kernel
theorem dX6_needAthlete_30 : decode cX6_needAthlete 30 = .ok (.iload_n 1, 1) := by decide +kernel
theorem dX6_needAthlete_31 : decode cX6_needAthlete 31 = .ok (.invokevirtual 185, 3) := by decide +kernel
theorem dX6_needAthlete_34 : decode cX6_needAthlete 34 = .ok (.checkcast 44, 3) := by decide +kernel
theorem dX6_needAthlete_37 : decode cX6_needAthlete 37 = .ok (.areturn, 1) := by decide +kernel
theorem dX6_needClassifier_0 : decode cX6_needClassifier 0 = .ok (.iload_n 1, 1) := by decide +kernel
theorem dX6_needClassifier_1 : decode cX6_needClassifier 1 = .ok (.ifCond .lt 14, 3) := by decide +kernel
theorem dX6_needClassifier_4 : decode cX6_needClassifier 4 = .ok (.iload_n 1, 1) := by decide +kernel
theorem dX6_needClassifier_5 : decode cX6_needClassifier 5 = .ok (.aload_n 0, 1) := by decide +kernel
theorem dX6_needClassifier_6 : decode cX6_needClassifier 6 = .ok (.getfield 16, 3) := by decide +kernel
theorem dX6_needClassifier_9 : decode cX6_needClassifier 9 = .ok (.invokevirtual 33, 3) := by decide +kernel
theorem dX6_needClassifier_12 : decode cX6_needClassifier 12 = .ok (.if_icmp .lt 14, 3) := by decide +kernel
theorem dX6_needClassifier_15 : decode cX6_needClassifier 15 = .ok (.new 232, 3) := by decide +kernel
theorem dX6_needClassifier_18 : decode cX6_needClassifier 18 = .ok (.dup, 1) := by decide +kernel
theorem dX6_needClassifier_19 : decode cX6_needClassifier 19 = .ok (.ldc_w 410, 3) := by decide +kernel
theorem dX6_needClassifier_22 : decode cX6_needClassifier 22 = .ok (.invokespecial 236, 3) := by decide +kernel
theorem dX6_needClassifier_25 : decode cX6_needClassifier 25 = .ok (.athrow, 1) := by decide +kernel
theorem dX6_needClassifier_26 : decode cX6_needClassifier 26 = .ok (.aload_n 0, 1) := by decide +kernel
theorem dX6_needClassifier_27 : decode cX6_needClassifier 27 = .ok (.getfield 16, 3) := by decide +kernel
theorem dX6_needClassifier_30 : decode cX6_needClassifier 30 = .ok (.iload_n 1, 1) := by decide +kernel
theorem dX6_needClassifier_31 : decode cX6_needClassifier 31 = .ok (.invokevirtual 185, 3) := by decide +kernel
theorem dX6_needClassifier_34 : decode cX6_needClassifier 34 = .ok (.checkcast 100, 3) := by decide +kernel
theorem dX6_needClassifier_37 : decode cX6_needClassifier 37 = .ok (.areturn, 1) := by decide +kernel
theorem dX6_needKind_0 : decode cX6_needKind 0 = .ok (.iload_n 1, 1) := by decide +kernel
theorem dX6_needKind_1 : decode cX6_needKind 1 = .ok (.ifCond .lt 14, 3) := by decide +kernel
theorem dX6_needKind_4 : decode cX6_needKind 4 = .ok (.iload_n 1, 1) := by decide +kernel
theorem dX6_needKind_5 : decode cX6_needKind 5 = .ok (.aload_n 0, 1) := by decide +kernel
theorem dX6_needKind_6 : decode cX6_needKind 6 = .ok (.getfield 19, 3) := by decide +kernel
theorem dX6_needKind_9 : decode cX6_needKind 9 = .ok (.invokevirtual 33, 3) := by decide +kernel
theorem dX6_needKind_12 : decode cX6_needKind 12 = .ok (.if_icmp .lt 14, 3) := by decide +kernel
theorem dX6_needKind_15 : decode cX6_needKind 15 = .ok (.new 232, 3) := by decide +kernel
theorem dX6_needKind_18 : decode cX6_needKind 18 = .ok (.dup, 1) := by decide +kernel
theorem dX6_needKind_19 : decode cX6_needKind 19 = .ok (.ldc_w 412, 3) := by decide +kernel
theorem dX6_needKind_22 : decode cX6_needKind 22 = .ok (.invokespecial 236, 3) := by decide +kernel
theorem dX6_needKind_25 : decode cX6_needKind 25 = .ok (.athrow, 1) := by decide +kernel
theorem dX6_needKind_26 : decode cX6_needKind 26 = .ok (.aload_n 0, 1) := by decide +kernel
theorem dX6_needKind_27 : decode cX6_needKind 27 = .ok (.getfield 19, 3) := by decide +kernel
theorem dX6_needKind_30 : decode cX6_needKind 30 = .ok (.iload_n 1, 1) := by decide +kernel
theorem dX6_needKind_31 : decode cX6_needKind 31 = .ok (.invokevirtual 185, 3) := by decide +kernel
theorem dX6_needKind_34 : decode cX6_needKind 34 = .ok (.checkcast 111, 3) := by decide +kernel
theorem dX6_needKind_37 : decode cX6_needKind 37 = .ok (.areturn, 1) := by decide +kernel
theorem dX6_needEvent_0 : decode cX6_needEvent 0 = .ok (.iload_n 1, 1) := by decide +kernel
theorem dX6_needEvent_1 : decode cX6_needEvent 1 = .ok (.ifCond .lt 14, 3) := by decide +kernel
theorem dX6_needEvent_4 : decode cX6_needEvent 4 = .ok (.iload_n 1, 1) := by decide +kernel
theorem dX6_needEvent_5 : decode cX6_needEvent 5 = .ok (.aload_n 0, 1) := by decide +kernel
theorem dX6_needEvent_6 : decode cX6_needEvent 6 = .ok (.getfield 22, 3) := by decide +kernel
theorem dX6_needEvent_9 : decode cX6_needEvent 9 = .ok (.invokevirtual 33, 3) := by decide +kernel
theorem dX6_needEvent_12 : decode cX6_needEvent 12 = .ok (.if_icmp .lt 14, 3) := by decide +kernel
theorem dX6_needEvent_15 : decode cX6_needEvent 15 = .ok (.new 232, 3) := by decide +kernel
theorem dX6_needEvent_18 : decode cX6_needEvent 18 = .ok (.dup, 1) := by decide +kernel
theorem dX6_needEvent_19 : decode cX6_needEvent 19 = .ok (.ldc_w 414, 3) := by decide +kernel
theorem dX6_needEvent_22 : decode cX6_needEvent 22 = .ok (.invokespecial 236, 3) := by decide +kernel
theorem dX6_needEvent_25 : decode cX6_needEvent 25 = .ok (.athrow, 1) := by decide +kernel
theorem dX6_needEvent_26 : decode cX6_needEvent 26 = .ok (.aload_n 0, 1) := by decide +kernel
theorem dX6_needEvent_27 : decode cX6_needEvent 27 = .ok (.getfield 22, 3) := by decide +kernel
theorem dX6_needEvent_30 : decode cX6_needEvent 30 = .ok (.iload_n 1, 1) := by decide +kernel
theorem dX6_needEvent_31 : decode cX6_needEvent 31 = .ok (.invokevirtual 185, 3) := by decide +kernel
theorem dX6_needEvent_34 : decode cX6_needEvent 34 = .ok (.checkcast 221, 3) := by decide +kernel
theorem dX6_needEvent_37 : decode cX6_needEvent 37 = .ok (.areturn, 1) := by decide +kernel
theorem dX6_needEntry_0 : decode cX6_needEntry 0 = .ok (.aload_n 0, 1) := by decide +kernel
theorem dX6_needEntry_1 : decode cX6_needEntry 1 = .ok (.iload_n 1, 1) := by decide +kernel
theorem dX6_needEntry_2 : decode cX6_needEntry 2 = .ok (.invokevirtual 224, 3) := by decide +kernel
theorem dX6_needEntry_5 : decode cX6_needEntry 5 = .ok (.aload_n 0, 1) := by decide +kernel
theorem dX6_needEntry_6 : decode cX6_needEntry 6 = .ok (.iload_n 2, 1) := by decide +kernel
theorem dX6_needEntry_7 : decode cX6_needEntry 7 = .ok (.invokevirtual 53, 3) := by decide +kernel
theorem dX6_needEntry_10 : decode cX6_needEntry 10 = .ok (.invokevirtual 250, 3) := by decide +kernel
theorem dX6_needEntry_13 : decode cX6_needEntry 13 = .ok (.astore_n 3, 1) := by decide +kernel
theorem dX6_needEntry_14 : decode cX6_needEntry 14 = .ok (.aload_n 3, 1) := by decide +kernel
theorem dX6_needEntry_15 : decode cX6_needEntry 15 = .ok (.ifnonnull 14, 3) := by decide +kernel
theorem dX6_needEntry_18 : decode cX6_needEntry 18 = .ok (.new 90, 3) := by decide +kernel
theorem dX6_needEntry_21 : decode cX6_needEntry 21 = .ok (.dup, 1) := by decide +kernel
theorem dX6_needEntry_22 : decode cX6_needEntry 22 = .ok (.ldc_w 416, 3) := by decide +kernel
theorem dX6_needEntry_25 : decode cX6_needEntry 25 = .ok (.invokespecial 94, 3) := by decide +kernel
theorem dX6_needEntry_28 : decode cX6_needEntry 28 = .ok (.athrow, 1) := by decide +kernel
theorem dX6_needEntry_29 : decode cX6_needEntry 29 = .ok (.aload_n 3, 1) := by decide +kernel
theorem dX6_needEntry_30 : decode cX6_needEntry 30 = .ok (.areturn, 1) := by decide +kernel
theorem dX6_needEntryWithTime_0 : decode cX6_needEntryWithTime 0 = .ok (.aload_n 0, 1) := by decide +kernel
theorem dX6_needEntryWithTime_1 : decode cX6_needEntryWithTime 1 = .ok (.iload_n 1, 1) := by decide +kernel
theorem dX6_needEntryWithTime_2 : decode cX6_needEntryWithTime 2 = .ok (.iload_n 2, 1) := by decide +kernel
theorem dX6_needEntryWithTime_3 : decode cX6_needEntryWithTime 3 = .ok (.invokevirtual 310, 3) := by decide +kernel
theorem dX6_needEntryWithTime_6 : decode cX6_needEntryWithTime 6 = .ok (.astore_n 3, 1) := by decide +kernel
theorem dX6_needEntryWithTime_7 : decode cX6_needEntryWithTime 7 = .ok (.aload_n 3, 1) := by decide +kernel
theorem dX6_needEntryWithTime_8 : decode cX6_needEntryWithTime 8 = .ok (.invokevirtual 292, 3) := by decide +kernel
theorem dX6_needEntryWithTime_11 : decode cX6_needEntryWithTime 11 = .ok (.ifCond .ne 14, 3) := by decide +kernel
theorem dX6_needEntryWithTime_14 : decode cX6_needEntryWithTime 14 = .ok (.new 90, 3) := by decide +kernel
theorem dX6_needEntryWithTime_17 : decode cX6_needEntryWithTime 17 = .ok (.dup, 1) := by decide +kernel
theorem dX6_needEntryWithTime_18 : decode cX6_needEntryWithTime 18 = .ok (.ldc_w 418, 3) := by decide +kernel
theorem dX6_needEntryWithTime_21 : decode cX6_needEntryWithTime 21 = .ok (.invokespecial 94, 3) := by decide +kernel
theorem dX6_needEntryWithTime_24 : decode cX6_needEntryWithTime 24 = .ok (.athrow, 1) := by decide +kernel
theorem dX6_needEntryWithTime_25 : decode cX6_needEntryWithTime 25 = .ok (.aload_n 3, 1) := by decide +kernel
theorem dX6_needEntryWithTime_26 : decode cX6_needEntryWithTime 26 = .ok (.areturn, 1) := by decide +kernel
theorem dX6_isTime_0 : decode cX6_isTime 0 = .ok (.iload_n 0, 1) := by decide +kernel
theorem dX6_isTime_1 : decode cX6_isTime 1 = .ok (.iconst 1, 1) := by decide +kernel
theorem dX6_isTime_2 : decode cX6_isTime 2 = .ok (.if_icmp .lt 14, 3) := by decide +kernel
theorem dX6_isTime_5 : decode cX6_isTime 5 = .ok (.iload_n 0, 1) := by decide +kernel
theorem dX6_isTime_6 : decode cX6_isTime 6 = .ok (.ldc_w 420, 3) := by decide +kernel
theorem dX6_isTime_9 : decode cX6_isTime 9 = .ok (.if_icmp .gt 7, 3) := by decide +kernel
theorem dX6_isTime_12 : decode cX6_isTime 12 = .ok (.iconst 1, 1) := by decide +kernel
theorem dX6_isTime_13 : decode cX6_isTime 13 = .ok (.goto 4, 3) := by decide +kernel
theorem dX6_isTime_16 : decode cX6_isTime 16 = .ok (.iconst 0, 1) := by decide +kernel
theorem dX6_isTime_17 : decode cX6_isTime 17 = .ok (.ireturn, 1) := by decide +kernel
theorem dX6_areBitsBelow_0 : decode cX6_areBitsBelow 0 = .ok (.iload_n 0, 1) := by decide +kernel
theorem dX6_areBitsBelow_1 : decode cX6_areBitsBelow 1 = .ok (.iload_n 1, 1) := by decide +kernel
theorem dX6_areBitsBelow_2 : decode cX6_areBitsBelow 2 = .ok (.iushr, 1) := by decide +kernel
theorem dX6_areBitsBelow_3 : decode cX6_areBitsBelow 3 = .ok (.ifCond .ne 7, 3) := by decide +kernel
theorem dX6_areBitsBelow_6 : decode cX6_areBitsBelow 6 = .ok (.iconst 1, 1) := by decide +kernel
theorem dX6_areBitsBelow_7 : decode cX6_areBitsBelow 7 = .ok (.goto 4, 3) := by decide +kernel
theorem dX6_areBitsBelow_10 : decode cX6_areBitsBelow 10 = .ok (.iconst 0, 1) := by decide +kernel
theorem dX6_areBitsBelow_11 : decode cX6_areBitsBelow 11 = .ok (.ireturn, 1) := by decide +kernel
theorem dX6_hasBit_0 : decode cX6_hasBit 0 = .ok (.iload_n 0, 1) := by decide +kernel
theorem dX6_hasBit_1 : decode cX6_hasBit 1 = .ok (.iload_n 1, 1) := by decide +kernel
theorem dX6_hasBit_2 : decode cX6_hasBit 2 = .ok (.iushr, 1) := by decide +kernel
theorem dX6_hasBit_3 : decode cX6_hasBit 3 = .ok (.iconst 1, 1) := by decide +kernel
theorem dX6_hasBit_4 : decode cX6_hasBit 4 = .ok (.iand, 1) := by decide +kernel
theorem dX6_hasBit_5 : decode cX6_hasBit 5 = .ok (.iconst 1, 1) := by decide +kernel
theorem dX6_hasBit_6 : decode cX6_hasBit 6 = .ok (.if_icmp .ne 7, 3) := by decide +kernel
theorem dX6_hasBit_9 : decode cX6_hasBit 9 = .ok (.iconst 1, 1) := by decide +kernel
theorem dX6_hasBit_10 : decode cX6_hasBit 10 = .ok (.goto 4, 3) := by decide +kernel
theorem dX6_hasBit_13 : decode cX6_hasBit 13 = .ok (.iconst 0, 1) := by decide +kernel
theorem dX6_hasBit_14 : decode cX6_hasBit 14 = .ok (.ireturn, 1) := by decide +kernel
theorem dX6_numberOf_0 : decode cX6_numberOf 0 = .ok (.aload_n 0, 1) := by decide +kernel
theorem dX6_numberOf_1 : decode cX6_numberOf 1 = .ok (.ifnonnull 7, 3) := by decide +kernel
theorem dX6_numberOf_4 : decode cX6_numberOf 4 = .ok (.iconst (-1), 1) := by decide +kernel
theorem dX6_numberOf_5 : decode cX6_numberOf 5 = .ok (.goto 7, 3) := by decide +kernel
theorem dX6_numberOf_8 : decode cX6_numberOf 8 = .ok (.aload_n 0, 1) := by decide +kernel
theorem dX6_numberOf_9 : decode cX6_numberOf 9 = .ok (.getfield 119, 3) := by decide +kernel
theorem dX6_numberOf_12 : decode cX6_numberOf 12 = .ok (.ireturn, 1) := by decide +kernel
theorem dX6_kindAround_0 : decode cX6_kindAround 0 = .ok (.iconst 0, 1) := by decide +kernel
theorem dX6_kindAround_1 : decode cX6_kindAround 1 = .ok (.istore_n 2, 1) := by decide +kernel
theorem dX6_kindAround_2 : decode cX6_kindAround 2 = .ok (.iload_n 2, 1) := by decide +kernel
theorem dX6_kindAround_3 : decode cX6_kindAround 3 = .ok (.aload_n 0, 1) := by decide +kernel
theorem dX6_kindAround_4 : decode cX6_kindAround 4 = .ok (.getfield 19, 3) := by decide +kernel
theorem dX6_kindAround_7 : decode cX6_kindAround 7 = .ok (.invokevirtual 33, 3) := by decide +kernel
theorem dX6_kindAround_10 : decode cX6_kindAround 10 = .ok (.if_icmp .ge 39, 3) := by decide +kernel
theorem dX6_kindAround_13 : decode cX6_kindAround 13 = .ok (.aload_n 0, 1) := by decide +kernel
theorem dX6_kindAround_14 : decode cX6_kindAround 14 = .ok (.getfield 19, 3) := by decide +kernel
theorem dX6_kindAround_17 : decode cX6_kindAround 17 = .ok (.iload_n 2, 1) := by decide +kernel
theorem dX6_kindAround_18 : decode cX6_kindAround 18 = .ok (.invokevirtual 185, 3) := by decide +kernel
theorem dX6_kindAround_21 : decode cX6_kindAround 21 = .ok (.checkcast 111, 3) := by decide +kernel
theorem dX6_kindAround_24 : decode cX6_kindAround 24 = .ok (.aload_n 1, 1) := by decide +kernel
theorem dX6_kindAround_25 : decode cX6_kindAround 25 = .ok (.invokevirtual 189, 3) := by decide +kernel
theorem dX6_kindAround_28 : decode cX6_kindAround 28 = .ok (.ifCond .eq 15, 3) := by decide +kernel
theorem dX6_kindAround_31 : decode cX6_kindAround 31 = .ok (.aload_n 0, 1) := by decide +kernel
theorem dX6_kindAround_32 : decode cX6_kindAround 32 = .ok (.getfield 19, 3) := by decide +kernel
theorem dX6_kindAround_35 : decode cX6_kindAround 35 = .ok (.iload_n 2, 1) := by decide +kernel
theorem dX6_kindAround_36 : decode cX6_kindAround 36 = .ok (.invokevirtual 185, 3) := by decide +kernel
theorem dX6_kindAround_39 : decode cX6_kindAround 39 = .ok (.checkcast 111, 3) := by decide +kernel
theorem dX6_kindAround_42 : decode cX6_kindAround 42 = .ok (.areturn, 1) := by decide +kernel
theorem dX6_kindAround_43 : decode cX6_kindAround 43 = .ok (.iinc 2 1, 3) := by decide +kernel
theorem dX6_kindAround_46 : decode cX6_kindAround 46 = .ok (.goto (-44), 3) := by decide +kernel
theorem dX6_kindAround_49 : decode cX6_kindAround 49 = .ok (.aconst_null, 1) := by decide +kernel
theorem dX6_kindAround_50 : decode cX6_kindAround 50 = .ok (.areturn, 1) := by decide +kernel
theorem dX6_examine_0 : decode cX6_examine 0 = .ok (.aload_n 1, 1) := by decide +kernel
theorem dX6_examine_1 : decode cX6_examine 1 = .ok (.getfield 65, 3) := by decide +kernel
theorem dX6_examine_4 : decode cX6_examine 4 = .ok (.aload_n 1, 1) := by decide +kernel
theorem dX6_examine_5 : decode cX6_examine 5 = .ok (.getfield 95, 3) := by decide +kernel
theorem dX6_examine_8 : decode cX6_examine 8 = .ok (.invokevirtual 421, 3) := by decide +kernel
theorem dX6_examine_11 : decode cX6_examine 11 = .ok (.istore_n 2, 1) := by decide +kernel
theorem dX6_examine_12 : decode cX6_examine 12 = .ok (.aload_n 1, 1) := by decide +kernel
theorem dX6_examine_13 : decode cX6_examine 13 = .ok (.invokevirtual 424, 3) := by decide +kernel
theorem dX6_examine_16 : decode cX6_examine 16 = .ok (.iload_n 2, 1) := by decide +kernel
theorem dX6_examine_17 : decode cX6_examine 17 = .ok (.ifCond .eq 14, 3) := by decide +kernel
theorem dX6_examine_20 : decode cX6_examine 20 = .ok (.aload_n 0, 1) := by decide +kernel
theorem dX6_examine_21 : decode cX6_examine 21 = .ok (.aload_n 1, 1) := by decide +kernel
theorem dX6_examine_22 : decode cX6_examine 22 = .ok (.aconst_null, 1) := by decide +kernel
theorem dX6_examine_23 : decode cX6_examine 23 = .ok (.bipush 120, 2) := by decide +kernel
theorem dX6_examine_25 : decode cX6_examine 25 = .ok (.invokevirtual 193, 3) := by decide +kernel
theorem dX6_examine_28 : decode cX6_examine 28 = .ok (.goto 10, 3) := by decide +kernel
theorem dX6_examine_31 : decode cX6_examine 31 = .ok (.aload_n 0, 1) := by decide +kernel
theorem dX6_examine_32 : decode cX6_examine 32 = .ok (.aload_n 1, 1) := by decide +kernel
theorem dX6_examine_33 : decode cX6_examine 33 = .ok (.bipush 99, 2) := by decide +kernel
theorem dX6_examine_35 : decode cX6_examine 35 = .ok (.invokevirtual 153, 3) := by decide +kernel
theorem dX6_examine_38 : decode cX6_examine 38 = .ok (.return_, 1) := by decide +kernel
theorem dX6_settleByFound_0 : decode cX6_settleByFound 0 = .ok (.aload_n 0, 1) := by decide +kernel
theorem dX6_settleByFound_1 : decode cX6_settleByFound 1 = .ok (.aload_n 1, 1) := by decide +kernel
theorem dX6_settleByFound_2 : decode cX6_settleByFound 2 = .ok (.getfield 95, 3) := by decide +kernel
theorem dX6_settleByFound_5 : decode cX6_settleByFound 5 = .ok (.invokevirtual 123, 3) := by decide +kernel
theorem dX6_settleByFound_8 : decode cX6_settleByFound 8 = .ok (.astore_n 3, 1) := by decide +kernel
theorem dX6_settleByFound_9 : decode cX6_settleByFound 9 = .ok (.aload_n 0, 1) := by decide +kernel
theorem dX6_settleByFound_10 : decode cX6_settleByFound 10 = .ok (.aload_n 1, 1) := by decide +kernel
theorem dX6_settleByFound_11 : decode cX6_settleByFound 11 = .ok (.aload_n 3, 1) := by decide +kernel
theorem dX6_settleByFound_12 : decode cX6_settleByFound 12 = .ok (.aload_n 3, 1) := by decide +kernel
theorem dX6_settleByFound_13 : decode cX6_settleByFound 13 = .ok (.ifnonnull 8, 3) := by decide +kernel
theorem dX6_settleByFound_16 : decode cX6_settleByFound 16 = .ok (.bipush 101, 2) := by decide +kernel
theorem dX6_settleByFound_18 : decode cX6_settleByFound 18 = .ok (.goto 4, 3) := by decide +kernel
theorem dX6_settleByFound_21 : decode cX6_settleByFound 21 = .ok (.iload_n 2, 1) := by decide +kernel
theorem dX6_settleByFound_22 : decode cX6_settleByFound 22 = .ok (.invokevirtual 193, 3) := by decide +kernel
theorem dX6_settleByFound_25 : decode cX6_settleByFound 25 = .ok (.return_, 1) := by decide +kernel
theorem dX6_settle_0 : decode cX6_settle 0 = .ok (.aload_n 1, 1) := by decide +kernel
theorem dX6_settle_1 : decode cX6_settle 1 = .ok (.getfield 157, 3) := by decide +kernel
theorem dX6_settle_4 : decode cX6_settle 4 = .ok (.aload_n 2, 1) := by decide +kernel
theorem dX6_settle_5 : decode cX6_settle 5 = .ok (.if_acmp .eq 8, 3) := by decide +kernel
theorem dX6_settle_8 : decode cX6_settle 8 = .ok (.aload_n 0, 1) := by decide +kernel
theorem dX6_settle_9 : decode cX6_settle 9 = .ok (.aload_n 1, 1) := by decide +kernel
theorem dX6_settle_10 : decode cX6_settle 10 = .ok (.invokevirtual 427, 3) := by decide +kernel
theorem dX6_settle_13 : decode cX6_settle 13 = .ok (.aload_n 1, 1) := by decide +kernel
theorem dX6_settle_14 : decode cX6_settle 14 = .ok (.aload_n 2, 1) := by decide +kernel
theorem dX6_settle_15 : decode cX6_settle 15 = .ok (.putfield 157, 3) := by decide +kernel
theorem dX6_settle_18 : decode cX6_settle 18 = .ok (.aload_n 1, 1) := by decide +kernel
theorem dX6_settle_19 : decode cX6_settle 19 = .ok (.iload_n 3, 1) := by decide +kernel
theorem dX6_settle_20 : decode cX6_settle 20 = .ok (.putfield 141, 3) := by decide +kernel
theorem dX6_settle_23 : decode cX6_settle 23 = .ok (.aload_n 1, 1) := by decide +kernel
theorem dX6_settle_24 : decode cX6_settle 24 = .ok (.aload_n 0, 1) := by decide +kernel
theorem dX6_settle_25 : decode cX6_settle 25 = .ok (.getfield 197, 3) := by decide +kernel
theorem dX6_settle_28 : decode cX6_settle 28 = .ok (.iconst 2, 1) := by decide +kernel
theorem dX6_settle_29 : decode cX6_settle 29 = .ok (.iadd, 1) := by decide +kernel
theorem dX6_settle_30 : decode cX6_settle 30 = .ok (.putfield 205, 3) := by decide +kernel
theorem dX6_settle_33 : decode cX6_settle 33 = .ok (.aload_n 2, 1) := by decide +kernel
theorem dX6_settle_34 : decode cX6_settle 34 = .ok (.ifnonnull 8, 3) := by decide +kernel
theorem dX6_settle_37 : decode cX6_settle 37 = .ok (.aload_n 1, 1) := by decide +kernel
theorem dX6_settle_38 : decode cX6_settle 38 = .ok (.iconst 0, 1) := by decide +kernel
theorem dX6_settle_39 : decode cX6_settle 39 = .ok (.putfield 368, 3) := by decide +kernel
theorem dX6_settle_42 : decode cX6_settle 42 = .ok (.return_, 1) := by decide +kernel
theorem dX6_endWaiting_0 : decode cX6_endWaiting 0 = .ok (.aload_n 1, 1) := by decide +kernel
theorem dX6_endWaiting_1 : decode cX6_endWaiting 1 = .ok (.getfield 141, 3) := by decide +kernel
theorem dX6_endWaiting_4 : decode cX6_endWaiting 4 = .ok (.bipush 120, 2) := by decide +kernel
theorem dX6_endWaiting_6 : decode cX6_endWaiting 6 = .ok (.if_icmp .ne 14, 3) := by decide +kernel
theorem dX6_endWaiting_9 : decode cX6_endWaiting 9 = .ok (.aload_n 0, 1) := by decide +kernel
theorem dX6_endWaiting_10 : decode cX6_endWaiting 10 = .ok (.aload_n 1, 1) := by decide +kernel
theorem dX6_endWaiting_11 : decode cX6_endWaiting 11 = .ok (.aconst_null, 1) := by decide +kernel
theorem dX6_endWaiting_12 : decode cX6_endWaiting 12 = .ok (.bipush 45, 2) := by decide +kernel
theorem dX6_endWaiting_14 : decode cX6_endWaiting 14 = .ok (.invokevirtual 193, 3) := by decide +kernel
theorem dX6_endWaiting_17 : decode cX6_endWaiting 17 = .ok (.goto 10, 3) := by decide +kernel
theorem dX6_endWaiting_20 : decode cX6_endWaiting 20 = .ok (.aload_n 0, 1) := by decide +kernel
theorem dX6_endWaiting_21 : decode cX6_endWaiting 21 = .ok (.aload_n 1, 1) := by decide +kernel
theorem dX6_endWaiting_22 : decode cX6_endWaiting 22 = .ok (.bipush 99, 2) := by decide +kernel
theorem dX6_endWaiting_24 : decode cX6_endWaiting 24 = .ok (.invokevirtual 153, 3) := by decide +kernel
theorem dX6_endWaiting_27 : decode cX6_endWaiting 27 = .ok (.return_, 1) := by decide +kernel
theorem dX6_dropOpenEntries_0 : decode cX6_dropOpenEntries 0 = .ok (.iconst 0, 1) := by decide +kernel
theorem dX6_dropOpenEntries_1 : decode cX6_dropOpenEntries 1 = .ok (.istore_n 2, 1) := by decide +kernel
theorem dX6_dropOpenEntries_2 : decode cX6_dropOpenEntries 2 = .ok (.iload_n 2, 1) := by decide +kernel
theorem dX6_dropOpenEntries_3 : decode cX6_dropOpenEntries 3 = .ok (.aload_n 0, 1) := by decide +kernel
theorem dX6_dropOpenEntries_4 : decode cX6_dropOpenEntries 4 = .ok (.getfield 22, 3) := by decide +kernel
theorem dX6_dropOpenEntries_7 : decode cX6_dropOpenEntries 7 = .ok (.invokevirtual 33, 3) := by decide +kernel
theorem dX6_dropOpenEntries_10 : decode cX6_dropOpenEntries 10 = .ok (.if_icmp .ge 50, 3) := by decide +kernel
theorem dX6_dropOpenEntries_13 : decode cX6_dropOpenEntries 13 = .ok (.aload_n 0, 1) := by decide +kernel
theorem dX6_dropOpenEntries_14 : decode cX6_dropOpenEntries 14 = .ok (.getfield 22, 3) := by decide +kernel
theorem dX6_dropOpenEntries_17 : decode cX6_dropOpenEntries 17 = .ok (.iload_n 2, 1) := by decide +kernel
theorem dX6_dropOpenEntries_18 : decode cX6_dropOpenEntries 18 = .ok (.invokevirtual 185, 3) := by decide +kernel
theorem dX6_dropOpenEntries_21 : decode cX6_dropOpenEntries 21 = .ok (.checkcast 221, 3) := by decide +kernel
theorem dX6_dropOpenEntries_24 : decode cX6_dropOpenEntries 24 = .ok (.aload_n 1, 1) := by decide +kernel
theorem dX6_dropOpenEntries_25 : decode cX6_dropOpenEntries 25 = .ok (.invokevirtual 250, 3) := by decide +kernel
theorem dX6_dropOpenEntries_28 : decode cX6_dropOpenEntries 28 = .ok (.astore_n 3, 1) := by decide +kernel
theorem dX6_dropOpenEntries_29 : decode cX6_dropOpenEntries 29 = .ok (.aload_n 3, 1) := by decide +kernel
theorem dX6_dropOpenEntries_30 : decode cX6_dropOpenEntries 30 = .ok (.ifnull 24, 3) := by decide +kernel
theorem dX6_dropOpenEntries_33 : decode cX6_dropOpenEntries 33 = .ok (.aload_n 0, 1) := by decide +kernel
theorem dX6_dropOpenEntries_34 : decode cX6_dropOpenEntries 34 = .ok (.getfield 22, 3) := by decide +kernel
theorem dX6_dropOpenEntries_37 : decode cX6_dropOpenEntries 37 = .ok (.iload_n 2, 1) := by decide +kernel
theorem dX6_dropOpenEntries_38 : decode cX6_dropOpenEntries 38 = .ok (.invokevirtual 185, 3) := by decide +kernel
theorem dX6_dropOpenEntries_41 : decode cX6_dropOpenEntries 41 = .ok (.checkcast 221, 3) := by decide +kernel
theorem dX6_dropOpenEntries_44 : decode cX6_dropOpenEntries 44 = .ok (.getfield 286, 3) := by decide +kernel
theorem dX6_dropOpenEntries_47 : decode cX6_dropOpenEntries 47 = .ok (.ifCond .ne 7, 3) := by decide +kernel
theorem dX6_dropOpenEntries_50 : decode cX6_dropOpenEntries 50 = .ok (.aload_n 3, 1) := by decide +kernel
theorem dX6_dropOpenEntries_51 : decode cX6_dropOpenEntries 51 = .ok (.invokevirtual 297, 3) := by decide +kernel
theorem dX6_dropOpenEntries_54 : decode cX6_dropOpenEntries 54 = .ok (.iinc 2 1, 3) := by decide +kernel
theorem dX6_dropOpenEntries_57 : decode cX6_dropOpenEntries 57 = .ok (.goto (-55), 3) := by decide +kernel
theorem dX6_dropOpenEntries_60 : decode cX6_dropOpenEntries 60 = .ok (.return_, 1) := by decide +kernel
theorem dX6_hasResult_0 : decode cX6_hasResult 0 = .ok (.iconst 0, 1) := by decide +kernel
theorem dX6_hasResult_1 : decode cX6_hasResult 1 = .ok (.istore_n 2, 1) := by decide +kernel
theorem dX6_hasResult_2 : decode cX6_hasResult 2 = .ok (.iload_n 2, 1) := by decide +kernel
theorem dX6_hasResult_3 : decode cX6_hasResult 3 = .ok (.aload_n 0, 1) := by decide +kernel
theorem dX6_hasResult_4 : decode cX6_hasResult 4 = .ok (.getfield 22, 3) := by decide +kernel
theorem dX6_hasResult_7 : decode cX6_hasResult 7 = .ok (.invokevirtual 33, 3) := by decide +kernel
theorem dX6_hasResult_10 : decode cX6_hasResult 10 = .ok (.if_icmp .ge 38, 3) := by decide +kernel
theorem dX6_hasResult_13 : decode cX6_hasResult 13 = .ok (.aload_n 0, 1) := by decide +kernel
theorem dX6_hasResult_14 : decode cX6_hasResult 14 = .ok (.getfield 22, 3) := by decide +kernel
theorem dX6_hasResult_17 : decode cX6_hasResult 17 = .ok (.iload_n 2, 1) := by decide +kernel
theorem dX6_hasResult_18 : decode cX6_hasResult 18 = .ok (.invokevirtual 185, 3) := by decide +kernel
theorem dX6_hasResult_21 : decode cX6_hasResult 21 = .ok (.checkcast 221, 3) := by decide +kernel
theorem dX6_hasResult_24 : decode cX6_hasResult 24 = .ok (.aload_n 1, 1) := by decide +kernel
theorem dX6_hasResult_25 : decode cX6_hasResult 25 = .ok (.invokevirtual 250, 3) := by decide +kernel
theorem dX6_hasResult_28 : decode cX6_hasResult 28 = .ok (.astore_n 3, 1) := by decide +kernel
theorem dX6_hasResult_29 : decode cX6_hasResult 29 = .ok (.aload_n 3, 1) := by decide +kernel
theorem dX6_hasResult_30 : decode cX6_hasResult 30 = .ok (.ifnull 12, 3) := by decide +kernel
theorem dX6_hasResult_33 : decode cX6_hasResult 33 = .ok (.aload_n 3, 1) := by decide +kernel
theorem dX6_hasResult_34 : decode cX6_hasResult 34 = .ok (.invokevirtual 292, 3) := by decide +kernel
theorem dX6_hasResult_37 : decode cX6_hasResult 37 = .ok (.ifCond .eq 5, 3) := by decide +kernel
theorem dX6_hasResult_40 : decode cX6_hasResult 40 = .ok (.iconst 1, 1) := by decide +kernel
theorem dX6_hasResult_41 : decode cX6_hasResult 41 = .ok (.ireturn, 1) := by decide +kernel
theorem dX6_hasResult_42 : decode cX6_hasResult 42 = .ok (.iinc 2 1, 3) := by decide +kernel
theorem dX6_hasResult_45 : decode cX6_hasResult 45 = .ok (.goto (-43), 3) := by decide +kernel
theorem dX6_hasResult_48 : decode cX6_hasResult 48 = .ok (.iconst 0, 1) := by decide +kernel
theorem dX6_hasResult_49 : decode cX6_hasResult 49 = .ok (.ireturn, 1) := by decide +kernel
theorem dX6_areAllOfLand_0 : decode cX6_areAllOfLand 0 = .ok (.iconst 0, 1) := by decide +kernel
theorem dX6_areAllOfLand_1 : decode cX6_areAllOfLand 1 = .ok (.istore_n 3, 1) := by decide +kernel
theorem dX6_areAllOfLand_2 : decode cX6_areAllOfLand 2 = .ok (.iload_n 3, 1) := by decide +kernel
theorem dX6_areAllOfLand_3 : decode cX6_areAllOfLand 3 = .ok (.aload_n 0, 1) := by decide +kernel
theorem dX6_areAllOfLand_4 : decode cX6_areAllOfLand 4 = .ok (.getfield 10, 3) := by decide +kernel
theorem dX6_areAllOfLand_7 : decode cX6_areAllOfLand 7 = .ok (.invokevirtual 33, 3) := by decide +kernel
theorem dX6_areAllOfLand_10 : decode cX6_areAllOfLand 10 = .ok (.if_icmp .ge 37, 3) := by decide +kernel
theorem dX6_areAllOfLand_13 : decode cX6_areAllOfLand 13 = .ok (.iload_n 1, 1) := by decide +kernel
theorem dX6_areAllOfLand_14 : decode cX6_areAllOfLand 14 = .ok (.iload_n 3, 1) := by decide +kernel
theorem dX6_areAllOfLand_15 : decode cX6_areAllOfLand 15 = .ok (.invokestatic 430, 3) := by decide +kernel
theorem dX6_areAllOfLand_18 : decode cX6_areAllOfLand 18 = .ok (.ifCond .eq 23, 3) := by decide +kernel
theorem dX6_areAllOfLand_21 : decode cX6_areAllOfLand 21 = .ok (.aload_n 0, 1) := by decide +kernel
theorem dX6_areAllOfLand_22 : decode cX6_areAllOfLand 22 = .ok (.getfield 10, 3) := by decide +kernel
theorem dX6_areAllOfLand_25 : decode cX6_areAllOfLand 25 = .ok (.iload_n 3, 1) := by decide +kernel
theorem dX6_areAllOfLand_26 : decode cX6_areAllOfLand 26 = .ok (.invokevirtual 185, 3) := by decide +kernel
theorem dX6_areAllOfLand_29 : decode cX6_areAllOfLand 29 = .ok (.checkcast 44, 3) := by decide +kernel
theorem dX6_areAllOfLand_32 : decode cX6_areAllOfLand 32 = .ok (.getfield 138, 3) := by decide +kernel
theorem dX6_areAllOfLand_35 : decode cX6_areAllOfLand 35 = .ok (.iload_n 2, 1) := by decide +kernel
theorem dX6_areAllOfLand_36 : decode cX6_areAllOfLand 36 = .ok (.if_icmp .eq 5, 3) := by decide +kernel
theorem dX6_areAllOfLand_39 : decode cX6_areAllOfLand 39 = .ok (.iconst 0, 1) := by decide +kernel
theorem dX6_areAllOfLand_40 : decode cX6_areAllOfLand 40 = .ok (.ireturn, 1) := by decide +kernel
theorem dX6_areAllOfLand_41 : decode cX6_areAllOfLand 41 = .ok (.iinc 3 1, 3) := by decide +kernel
theorem dX6_areAllOfLand_44 : decode cX6_areAllOfLand 44 = .ok (.goto (-42), 3) := by decide +kernel
theorem dX6_areAllOfLand_47 : decode cX6_areAllOfLand 47 = .ok (.iconst 1, 1) := by decide +kernel
theorem dX6_areAllOfLand_48 : decode cX6_areAllOfLand 48 = .ok (.ireturn, 1) := by decide +kernel
theorem dX6_haveAllClasses_0 : decode cX6_haveAllClasses 0 = .ok (.iconst 0, 1) := by decide +kernel
theorem dX6_haveAllClasses_1 : decode cX6_haveAllClasses 1 = .ok (.istore_n 2, 1) := by decide +kernel
theorem dX6_haveAllClasses_2 : decode cX6_haveAllClasses 2 = .ok (.iload_n 2, 1) := by decide +kernel
theorem dX6_haveAllClasses_3 : decode cX6_haveAllClasses 3 = .ok (.aload_n 0, 1) := by decide +kernel
theorem dX6_haveAllClasses_4 : decode cX6_haveAllClasses 4 = .ok (.getfield 10, 3) := by decide +kernel
theorem dX6_haveAllClasses_7 : decode cX6_haveAllClasses 7 = .ok (.invokevirtual 33, 3) := by decide +kernel
theorem dX6_haveAllClasses_10 : decode cX6_haveAllClasses 10 = .ok (.if_icmp .ge 36, 3) := by decide +kernel
theorem dX6_haveAllClasses_13 : decode cX6_haveAllClasses 13 = .ok (.iload_n 1, 1) := by decide +kernel
theorem dX6_haveAllClasses_14 : decode cX6_haveAllClasses 14 = .ok (.iload_n 2, 1) := by decide +kernel
theorem dX6_haveAllClasses_15 : decode cX6_haveAllClasses 15 = .ok (.invokestatic 430, 3) := by decide +kernel
theorem dX6_haveAllClasses_18 : decode cX6_haveAllClasses 18 = .ok (.ifCond .eq 22, 3) := by decide +kernel
theorem dX6_haveAllClasses_21 : decode cX6_haveAllClasses 21 = .ok (.aload_n 0, 1) := by decide +kernel
theorem dX6_haveAllClasses_22 : decode cX6_haveAllClasses 22 = .ok (.getfield 10, 3) := by decide +kernel
theorem dX6_haveAllClasses_25 : decode cX6_haveAllClasses 25 = .ok (.iload_n 2, 1) := by decide +kernel
theorem dX6_haveAllClasses_26 : decode cX6_haveAllClasses 26 = .ok (.invokevirtual 185, 3) := by decide +kernel
theorem dX6_haveAllClasses_29 : decode cX6_haveAllClasses 29 = .ok (.checkcast 44, 3) := by decide +kernel
theorem dX6_haveAllClasses_32 : decode cX6_haveAllClasses 32 = .ok (.getfield 157, 3) := by decide +kernel
theorem dX6_haveAllClasses_35 : decode cX6_haveAllClasses 35 = .ok (.ifnonnull 5, 3) := by decide +kernel
theorem dX6_haveAllClasses_38 : decode cX6_haveAllClasses 38 = .ok (.iconst 0, 1) := by decide +kernel
theorem dX6_haveAllClasses_39 : decode cX6_haveAllClasses 39 = .ok (.ireturn, 1) := by decide +kernel
theorem dX6_haveAllClasses_40 : decode cX6_haveAllClasses 40 = .ok (.iinc 2 1, 3) := by decide +kernel
theorem dX6_haveAllClasses_43 : decode cX6_haveAllClasses 43 = .ok (.goto (-41), 3) := by decide +kernel
theorem dX6_haveAllClasses_46 : decode cX6_haveAllClasses 46 = .ok (.iconst 1, 1) := by decide +kernel
theorem dX6_haveAllClasses_47 : decode cX6_haveAllClasses 47 = .ok (.ireturn, 1) := by decide +kernel
theorem dX6_pointsOf_0 : decode cX6_pointsOf 0 = .ok (.iconst 0, 1) := by decide +kernel
theorem dX6_pointsOf_1 : decode cX6_pointsOf 1 = .ok (.istore_n 2, 1) := by decide +kernel
theorem dX6_pointsOf_2 : decode cX6_pointsOf 2 = .ok (.iconst 0, 1) := by decide +kernel
theorem dX6_pointsOf_3 : decode cX6_pointsOf 3 = .ok (.istore_n 3, 1) := by decide +kernel
theorem dX6_pointsOf_4 : decode cX6_pointsOf 4 = .ok (.iload_n 3, 1) := by decide +kernel
theorem dX6_pointsOf_5 : decode cX6_pointsOf 5 = .ok (.aload_n 0, 1) := by decide +kernel
theorem dX6_pointsOf_6 : decode cX6_pointsOf 6 = .ok (.getfield 10, 3) := by decide +kernel
theorem dX6_pointsOf_9 : decode cX6_pointsOf 9 = .ok (.invokevirtual 33, 3) := by decide +kernel
theorem dX6_pointsOf_12 : decode cX6_pointsOf 12 = .ok (.if_icmp .ge 34, 3) := by decide +kernel
theorem dX6_pointsOf_15 : decode cX6_pointsOf 15 = .ok (.iload_n 1, 1) := by decide +kernel
theorem dX6_pointsOf_16 : decode cX6_pointsOf 16 = .ok (.iload_n 3, 1) := by decide +kernel
theorem dX6_pointsOf_17 : decode cX6_pointsOf 17 = .ok (.invokestatic 430, 3) := by decide +kernel
theorem dX6_pointsOf_20 : decode cX6_pointsOf 20 = .ok (.ifCond .eq 20, 3) := by decide +kernel
theorem dX6_pointsOf_23 : decode cX6_pointsOf 23 = .ok (.iload_n 2, 1) := by decide +kernel
theorem dX6_pointsOf_24 : decode cX6_pointsOf 24 = .ok (.aload_n 0, 1) := by decide +kernel
theorem dX6_pointsOf_25 : decode cX6_pointsOf 25 = .ok (.getfield 10, 3) := by decide +kernel
theorem dX6_pointsOf_28 : decode cX6_pointsOf 28 = .ok (.iload_n 3, 1) := by decide +kernel
theorem dX6_pointsOf_29 : decode cX6_pointsOf 29 = .ok (.invokevirtual 185, 3) := by decide +kernel
theorem dX6_pointsOf_32 : decode cX6_pointsOf 32 = .ok (.checkcast 44, 3) := by decide +kernel
theorem dX6_pointsOf_35 : decode cX6_pointsOf 35 = .ok (.invokevirtual 378, 3) := by decide +kernel
theorem dX6_pointsOf_38 : decode cX6_pointsOf 38 = .ok (.iadd, 1) := by decide +kernel
theorem dX6_pointsOf_39 : decode cX6_pointsOf 39 = .ok (.istore_n 2, 1) := by decide +kernel
theorem dX6_pointsOf_40 : decode cX6_pointsOf 40 = .ok (.iinc 3 1, 3) := by decide +kernel
theorem dX6_pointsOf_43 : decode cX6_pointsOf 43 = .ok (.goto (-39), 3) := by decide +kernel
theorem dX6_pointsOf_46 : decode cX6_pointsOf 46 = .ok (.iload_n 2, 1) := by decide +kernel
theorem dX6_pointsOf_47 : decode cX6_pointsOf 47 = .ok (.ireturn, 1) := by decide +kernel
theorem dX6_putOnFloor_0 : decode cX6_putOnFloor 0 = .ok (.iconst 0, 1) := by decide +kernel
theorem dX6_putOnFloor_1 : decode cX6_putOnFloor 1 = .ok (.istore_n 3, 1) := by decide +kernel
theorem dX6_putOnFloor_2 : decode cX6_putOnFloor 2 = .ok (.iload_n 3, 1) := by decide +kernel
theorem dX6_putOnFloor_3 : decode cX6_putOnFloor 3 = .ok (.aload_n 0, 1) := by decide +kernel
theorem dX6_putOnFloor_4 : decode cX6_putOnFloor 4 = .ok (.getfield 10, 3) := by decide +kernel
theorem dX6_putOnFloor_7 : decode cX6_putOnFloor 7 = .ok (.invokevirtual 33, 3) := by decide +kernel
theorem dX6_putOnFloor_10 : decode cX6_putOnFloor 10 = .ok (.if_icmp .ge 46, 3) := by decide +kernel
theorem dX6_putOnFloor_13 : decode cX6_putOnFloor 13 = .ok (.aload_n 0, 1) := by decide +kernel
theorem dX6_putOnFloor_14 : decode cX6_putOnFloor 14 = .ok (.getfield 10, 3) := by decide +kernel
theorem dX6_putOnFloor_17 : decode cX6_putOnFloor 17 = .ok (.iload_n 3, 1) := by decide +kernel
theorem dX6_putOnFloor_18 : decode cX6_putOnFloor 18 = .ok (.invokevirtual 185, 3) := by decide +kernel
theorem dX6_putOnFloor_21 : decode cX6_putOnFloor 21 = .ok (.checkcast 44, 3) := by decide +kernel
theorem dX6_putOnFloor_24 : decode cX6_putOnFloor 24 = .ok (.getfield 138, 3) := by decide +kernel
theorem dX6_putOnFloor_27 : decode cX6_putOnFloor 27 = .ok (.iload_n 1, 1) := by decide +kernel
theorem dX6_putOnFloor_28 : decode cX6_putOnFloor 28 = .ok (.if_icmp .ne 22, 3) := by decide +kernel
theorem dX6_putOnFloor_31 : decode cX6_putOnFloor 31 = .ok (.aload_n 0, 1) := by decide +kernel
theorem dX6_putOnFloor_32 : decode cX6_putOnFloor 32 = .ok (.getfield 10, 3) := by decide +kernel
theorem dX6_putOnFloor_35 : decode cX6_putOnFloor 35 = .ok (.iload_n 3, 1) := by decide +kernel
theorem dX6_putOnFloor_36 : decode cX6_putOnFloor 36 = .ok (.invokevirtual 185, 3) := by decide +kernel
theorem dX6_putOnFloor_39 : decode cX6_putOnFloor 39 = .ok (.checkcast 44, 3) := by decide +kernel
theorem dX6_putOnFloor_42 : decode cX6_putOnFloor 42 = .ok (.iload_n 2, 1) := by decide +kernel
theorem dX6_putOnFloor_43 : decode cX6_putOnFloor 43 = .ok (.iload_n 3, 1) := by decide +kernel
theorem dX6_putOnFloor_44 : decode cX6_putOnFloor 44 = .ok (.invokestatic 430, 3) := by decide +kernel
theorem dX6_putOnFloor_47 : decode cX6_putOnFloor 47 = .ok (.putfield 368, 3) := by decide +kernel
theorem dX6_putOnFloor_50 : decode cX6_putOnFloor 50 = .ok (.iinc 3 1, 3) := by decide +kernel
theorem dX6_putOnFloor_53 : decode cX6_putOnFloor 53 = .ok (.goto (-51), 3) := by decide +kernel
theorem dX6_putOnFloor_56 : decode cX6_putOnFloor 56 = .ok (.return_, 1) := by decide +kernel
theorem dX6_bitsOnFloor_0 : decode cX6_bitsOnFloor 0 = .ok (.iconst 0, 1) := by decide +kernel
theorem dX6_bitsOnFloor_1 : decode cX6_bitsOnFloor 1 = .ok (.istore_n 2, 1) := by decide +kernel
theorem dX6_bitsOnFloor_2 : decode cX6_bitsOnFloor 2 = .ok (.iconst 0, 1) := by decide +kernel
theorem dX6_bitsOnFloor_3 : decode cX6_bitsOnFloor 3 = .ok (.istore_n 3, 1) := by decide +kernel
theorem dX6_bitsOnFloor_4 : decode cX6_bitsOnFloor 4 = .ok (.iload_n 3, 1) := by decide +kernel
theorem dX6_bitsOnFloor_5 : decode cX6_bitsOnFloor 5 = .ok (.aload_n 0, 1) := by decide +kernel
theorem dX6_bitsOnFloor_6 : decode cX6_bitsOnFloor 6 = .ok (.getfield 10, 3) := by decide +kernel
theorem dX6_bitsOnFloor_9 : decode cX6_bitsOnFloor 9 = .ok (.invokevirtual 33, 3) := by decide +kernel
theorem dX6_bitsOnFloor_12 : decode cX6_bitsOnFloor 12 = .ok (.if_icmp .ge 50, 3) := by decide +kernel
theorem dX6_bitsOnFloor_15 : decode cX6_bitsOnFloor 15 = .ok (.aload_n 0, 1) := by decide +kernel
theorem dX6_bitsOnFloor_16 : decode cX6_bitsOnFloor 16 = .ok (.getfield 10, 3) := by decide +kernel
theorem dX6_bitsOnFloor_19 : decode cX6_bitsOnFloor 19 = .ok (.iload_n 3, 1) := by decide +kernel
theorem dX6_bitsOnFloor_20 : decode cX6_bitsOnFloor 20 = .ok (.invokevirtual 185, 3) := by decide +kernel
theorem dX6_bitsOnFloor_23 : decode cX6_bitsOnFloor 23 = .ok (.checkcast 44, 3) := by decide +kernel
theorem dX6_bitsOnFloor_26 : decode cX6_bitsOnFloor 26 = .ok (.getfield 138, 3) := by decide +kernel
theorem dX6_bitsOnFloor_29 : decode cX6_bitsOnFloor 29 = .ok (.iload_n 1, 1) := by decide +kernel
theorem dX6_bitsOnFloor_30 : decode cX6_bitsOnFloor 30 = .ok (.if_icmp .ne 26, 3) := by decide +kernel
theorem dX6_bitsOnFloor_33 : decode cX6_bitsOnFloor 33 = .ok (.aload_n 0, 1) := by decide +kernel
theorem dX6_bitsOnFloor_34 : decode cX6_bitsOnFloor 34 = .ok (.getfield 10, 3) := by decide +kernel
theorem dX6_bitsOnFloor_37 : decode cX6_bitsOnFloor 37 = .ok (.iload_n 3, 1) := by decide +kernel
theorem dX6_bitsOnFloor_38 : decode cX6_bitsOnFloor 38 = .ok (.invokevirtual 185, 3) := by decide +kernel
theorem dX6_bitsOnFloor_41 : decode cX6_bitsOnFloor 41 = .ok (.checkcast 44, 3) := by decide +kernel
theorem dX6_bitsOnFloor_44 : decode cX6_bitsOnFloor 44 = .ok (.getfield 368, 3) := by decide +kernel
theorem dX6_bitsOnFloor_47 : decode cX6_bitsOnFloor 47 = .ok (.ifCond .eq 9, 3) := by decide +kernel
theorem dX6_bitsOnFloor_50 : decode cX6_bitsOnFloor 50 = .ok (.iload_n 2, 1) := by decide +kernel
theorem dX6_bitsOnFloor_51 : decode cX6_bitsOnFloor 51 = .ok (.iconst 1, 1) := by decide +kernel
theorem dX6_bitsOnFloor_52 : decode cX6_bitsOnFloor 52 = .ok (.iload_n 3, 1) := by decide +kernel
theorem dX6_bitsOnFloor_53 : decode cX6_bitsOnFloor 53 = .ok (.ishl, 1) := by decide +kernel
theorem dX6_bitsOnFloor_54 : decode cX6_bitsOnFloor 54 = .ok (.ior, 1) := by decide +kernel
theorem dX6_bitsOnFloor_55 : decode cX6_bitsOnFloor 55 = .ok (.istore_n 2, 1) := by decide +kernel
theorem dX6_bitsOnFloor_56 : decode cX6_bitsOnFloor 56 = .ok (.iinc 3 1, 3) := by decide +kernel
theorem dX6_bitsOnFloor_59 : decode cX6_bitsOnFloor 59 = .ok (.goto (-55), 3) := by decide +kernel
theorem dX6_bitsOnFloor_62 : decode cX6_bitsOnFloor 62 = .ok (.iload_n 2, 1) := by decide +kernel
theorem dX6_bitsOnFloor_63 : decode cX6_bitsOnFloor 63 = .ok (.ireturn, 1) := by decide +kernel
theorem dX7_init_0 : decode cX7_init 0 = .ok (.aload_n 0, 1) := by decide +kernel
theorem dX7_init_1 : decode cX7_init 1 = .ok (.invokespecial 1, 3) := by decide +kernel
theorem dX7_init_4 : decode cX7_init 4 = .ok (.aload_n 0, 1) := by decide +kernel
theorem dX7_init_5 : decode cX7_init 5 = .ok (.bipush 16, 2) := by decide +kernel
theorem dX7_init_7 : decode cX7_init 7 = .ok (.newarray .int, 2) := by decide +kernel
theorem dX7_init_9 : decode cX7_init 9 = .ok (.putfield 9, 3) := by decide +kernel
theorem dX7_init_12 : decode cX7_init 12 = .ok (.aload_n 0, 1) := by decide +kernel
theorem dX7_init_13 : decode cX7_init 13 = .ok (.bipush 16, 2) := by decide +kernel
theorem dX7_init_15 : decode cX7_init 15 = .ok (.iconst 5, 1) := by decide +kernel
theorem dX7_init_16 : decode cX7_init 16 = .ok (.multianewarray 13 2, 4) := by decide +kernel
theorem dX7_init_20 : decode cX7_init 20 = .ok (.putfield 15, 3) := by decide +kernel
theorem dX7_init_23 : decode cX7_init 23 = .ok (.aload_n 0, 1) := by decide +kernel
theorem dX7_init_24 : decode cX7_init 24 = .ok (.bipush 16, 2) := by decide +kernel
theorem dX7_init_26 : decode cX7_init 26 = .ok (.iconst 5, 1) := by decide +kernel
theorem dX7_init_27 : decode cX7_init 27 = .ok (.multianewarray 13 2, 4) := by decide +kernel
theorem dX7_init_31 : decode cX7_init 31 = .ok (.putfield 18, 3) := by decide +kernel
theorem dX7_init_34 : decode cX7_init 34 = .ok (.aload_n 0, 1) := by decide +kernel
theorem dX7_init_35 : decode cX7_init 35 = .ok (.bipush 16, 2) := by decide +kernel
theorem dX7_init_37 : decode cX7_init 37 = .ok (.iconst 5, 1) := by decide +kernel
theorem dX7_init_38 : decode cX7_init 38 = .ok (.multianewarray 13 2, 4) := by decide +kernel
theorem dX7_init_42 : decode cX7_init 42 = .ok (.putfield 21, 3) := by decide +kernel
theorem dX7_init_45 : decode cX7_init 45 = .ok (.aload_n 0, 1) := by decide +kernel
theorem dX7_init_46 : decode cX7_init 46 = .ok (.bipush 16, 2) := by decide +kernel
theorem dX7_init_48 : decode cX7_init 48 = .ok (.newarray .boolean, 2) := by decide +kernel
theorem dX7_init_50 : decode cX7_init 50 = .ok (.putfield 24, 3) := by decide +kernel
theorem dX7_init_53 : decode cX7_init 53 = .ok (.aload_n 0, 1) := by decide +kernel
theorem dX7_init_54 : decode cX7_init 54 = .ok (.bipush 16, 2) := by decide +kernel
theorem dX7_init_56 : decode cX7_init 56 = .ok (.newarray .char, 2) := by decide +kernel
theorem dX7_init_58 : decode cX7_init 58 = .ok (.putfield 28, 3) := by decide +kernel
theorem dX7_init_61 : decode cX7_init 61 = .ok (.aload_n 0, 1) := by decide +kernel
theorem dX7_init_62 : decode cX7_init 62 = .ok (.bipush 16, 2) := by decide +kernel
theorem dX7_init_64 : decode cX7_init 64 = .ok (.newarray .int, 2) := by decide +kernel
theorem dX7_init_66 : decode cX7_init 66 = .ok (.putfield 32, 3) := by decide +kernel
theorem dX7_init_69 : decode cX7_init 69 = .ok (.aload_n 0, 1) := by decide +kernel
theorem dX7_init_70 : decode cX7_init 70 = .ok (.bipush 16, 2) := by decide +kernel
theorem dX7_init_72 : decode cX7_init 72 = .ok (.newarray .int, 2) := by decide +kernel
theorem dX7_init_74 : decode cX7_init 74 = .ok (.putfield 35, 3) := by decide +kernel
theorem dX7_init_77 : decode cX7_init 77 = .ok (.aload_n 0, 1) := by decide +kernel
theorem dX7_init_78 : decode cX7_init 78 = .ok (.bipush 16, 2) := by decide +kernel
theorem dX7_init_80 : decode cX7_init 80 = .ok (.newarray .boolean, 2) := by decide +kernel
theorem dX7_init_82 : decode cX7_init 82 = .ok (.putfield 38, 3) := by decide +kernel
theorem dX7_init_85 : decode cX7_init 85 = .ok (.aload_n 0, 1) := by decide +kernel
theorem dX7_init_86 : decode cX7_init 86 = .ok (.bipush 8, 2) := by decide +kernel
theorem dX7_init_88 : decode cX7_init 88 = .ok (.newarray .int, 2) := by decide +kernel
theorem dX7_init_90 : decode cX7_init 90 = .ok (.putfield 41, 3) := by decide +kernel
theorem dX7_init_93 : decode cX7_init 93 = .ok (.aload_n 0, 1) := by decide +kernel
theorem dX7_init_94 : decode cX7_init 94 = .ok (.bipush 8, 2) := by decide +kernel
theorem dX7_init_96 : decode cX7_init 96 = .ok (.iconst 4, 1) := by decide +kernel
theorem dX7_init_97 : decode cX7_init 97 = .ok (.multianewarray 13 2, 4) := by decide +kernel
theorem dX7_init_101 : decode cX7_init 101 = .ok (.putfield 44, 3) := by decide +kernel
theorem dX7_init_104 : decode cX7_init 104 = .ok (.aload_n 0, 1) := by decide +kernel
theorem dX7_init_105 : decode cX7_init 105 = .ok (.bipush 8, 2) := by decide +kernel
theorem dX7_init_107 : decode cX7_init 107 = .ok (.newarray .int, 2) := by decide +kernel
theorem dX7_init_109 : decode cX7_init 109 = .ok (.putfield 47, 3) := by decide +kernel
theorem dX7_init_112 : decode cX7_init 112 = .ok (.aload_n 0, 1) := by decide +kernel
theorem dX7_init_113 : decode cX7_init 113 = .ok (.bipush 6, 2) := by decide +kernel
theorem dX7_init_115 : decode cX7_init 115 = .ok (.newarray .int, 2) := by decide +kernel
theorem dX7_init_117 : decode cX7_init 117 = .ok (.dup, 1) := by decide +kernel
theorem dX7_init_118 : decode cX7_init 118 = .ok (.iconst 0, 1) := by decide +kernel
theorem dX7_init_119 : decode cX7_init 119 = .ok (.sipush 1000, 3) := by decide +kernel
theorem dX7_init_122 : decode cX7_init 122 = .ok (.iastore, 1) := by decide +kernel
theorem dX7_init_123 : decode cX7_init 123 = .ok (.dup, 1) := by decide +kernel
theorem dX7_init_124 : decode cX7_init 124 = .ok (.iconst 1, 1) := by decide +kernel
theorem dX7_init_125 : decode cX7_init 125 = .ok (.sipush 1000, 3) := by decide +kernel
theorem dX7_init_128 : decode cX7_init 128 = .ok (.iastore, 1) := by decide +kernel
theorem dX7_init_129 : decode cX7_init 129 = .ok (.dup, 1) := by decide +kernel
theorem dX7_init_130 : decode cX7_init 130 = .ok (.iconst 2, 1) := by decide +kernel
theorem dX7_init_131 : decode cX7_init 131 = .ok (.sipush 1000, 3) := by decide +kernel
theorem dX7_init_134 : decode cX7_init 134 = .ok (.iastore, 1) := by decide +kernel
theorem dX7_init_135 : decode cX7_init 135 = .ok (.dup, 1) := by decide +kernel
theorem dX7_init_136 : decode cX7_init 136 = .ok (.iconst 3, 1) := by decide +kernel
theorem dX7_init_137 : decode cX7_init 137 = .ok (.sipush 1000, 3) := by decide +kernel
theorem dX7_init_140 : decode cX7_init 140 = .ok (.iastore, 1) := by decide +kernel
theorem dX7_init_141 : decode cX7_init 141 = .ok (.dup, 1) := by decide +kernel
theorem dX7_init_142 : decode cX7_init 142 = .ok (.iconst 4, 1) := by decide +kernel
theorem dX7_init_143 : decode cX7_init 143 = .ok (.sipush 1000, 3) := by decide +kernel
theorem dX7_init_146 : decode cX7_init 146 = .ok (.iastore, 1) := by decide +kernel
theorem dX7_init_147 : decode cX7_init 147 = .ok (.dup, 1) := by decide +kernel
theorem dX7_init_148 : decode cX7_init 148 = .ok (.iconst 5, 1) := by decide +kernel
theorem dX7_init_149 : decode cX7_init 149 = .ok (.sipush 1000, 3) := by decide +kernel
theorem dX7_init_152 : decode cX7_init 152 = .ok (.iastore, 1) := by decide +kernel
theorem dX7_init_153 : decode cX7_init 153 = .ok (.putfield 50, 3) := by decide +kernel
theorem dX7_init_156 : decode cX7_init 156 = .ok (.aload_n 0, 1) := by decide +kernel
theorem dX7_init_157 : decode cX7_init 157 = .ok (.bipush 8, 2) := by decide +kernel
theorem dX7_init_159 : decode cX7_init 159 = .ok (.newarray .int, 2) := by decide +kernel
theorem dX7_init_161 : decode cX7_init 161 = .ok (.putfield 53, 3) := by decide +kernel
theorem dX7_init_164 : decode cX7_init 164 = .ok (.aload_n 0, 1) := by decide +kernel
theorem dX7_init_165 : decode cX7_init 165 = .ok (.bipush 8, 2) := by decide +kernel
theorem dX7_init_167 : decode cX7_init 167 = .ok (.bipush 8, 2) := by decide +kernel
theorem dX7_init_169 : decode cX7_init 169 = .ok (.multianewarray 13 2, 4) := by decide +kernel
theorem dX7_init_173 : decode cX7_init 173 = .ok (.putfield 56, 3) := by decide +kernel
theorem dX7_init_176 : decode cX7_init 176 = .ok (.aload_n 0, 1) := by decide +kernel
theorem dX7_init_177 : decode cX7_init 177 = .ok (.bipush 8, 2) := by decide +kernel
theorem dX7_init_179 : decode cX7_init 179 = .ok (.newarray .boolean, 2) := by decide +kernel
theorem dX7_init_181 : decode cX7_init 181 = .ok (.putfield 59, 3) := by decide +kernel
theorem dX7_init_184 : decode cX7_init 184 = .ok (.aload_n 0, 1) := by decide +kernel
theorem dX7_init_185 : decode cX7_init 185 = .ok (.bipush 8, 2) := by decide +kernel
theorem dX7_init_187 : decode cX7_init 187 = .ok (.newarray .boolean, 2) := by decide +kernel
theorem dX7_init_189 : decode cX7_init 189 = .ok (.putfield 62, 3) := by decide +kernel
theorem dX7_init_192 : decode cX7_init 192 = .ok (.aload_n 0, 1) := by decide +kernel
theorem dX7_init_193 : decode cX7_init 193 = .ok (.bipush 8, 2) := by decide +kernel
theorem dX7_init_195 : decode cX7_init 195 = .ok (.bipush 16, 2) := by decide +kernel
theorem dX7_init_197 : decode cX7_init 197 = .ok (.multianewarray 13 2, 4) := by decide +kernel
theorem dX7_init_201 : decode cX7_init 201 = .ok (.putfield 65, 3) := by decide +kernel
theorem dX7_init_204 : decode cX7_init 204 = .ok (.aload_n 0, 1) := by decide +kernel
theorem dX7_init_205 : decode cX7_init 205 = .ok (.bipush 8, 2) := by decide +kernel
theorem dX7_init_207 : decode cX7_init 207 = .ok (.bipush 16, 2) := by decide +kernel
theorem dX7_init_209 : decode cX7_init 209 = .ok (.multianewarray 68 2, 4) := by decide +kernel
theorem dX7_init_213 : decode cX7_init 213 = .ok (.putfield 70, 3) := by decide +kernel
theorem dX7_init_216 : decode cX7_init 216 = .ok (.aload_n 0, 1) := by decide +kernel
theorem dX7_init_217 : decode cX7_init 217 = .ok (.bipush 8, 2) := by decide +kernel
theorem dX7_init_219 : decode cX7_init 219 = .ok (.bipush 16, 2) := by decide +kernel
theorem dX7_init_221 : decode cX7_init 221 = .ok (.multianewarray 13 2, 4) := by decide +kernel
theorem dX7_init_225 : decode cX7_init 225 = .ok (.putfield 73, 3) := by decide +kernel
theorem dX7_init_228 : decode cX7_init 228 = .ok (.iconst 0, 1) := by decide +kernel
theorem dX7_init_229 : decode cX7_init 229 = .ok (.istore_n 1, 1) := by decide +kernel
theorem dX7_init_230 : decode cX7_init 230 = .ok (.iload_n 1, 1) := by decide +kernel
theorem dX7_init_231 : decode cX7_init 231 = .ok (.bipush 8, 2) := by decide +kernel
