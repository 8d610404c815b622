theorem dX5_spentInAll_31 : decode cX5_spentInAll 31 = .ok (.getfield 304, 3) := by decide +kernel
theorem dX5_spentInAll_34 : decode cX5_spentInAll 34 = .ok (.goto 4, 3) := by decide +kernel
theorem dX5_spentInAll_37 : decode cX5_spentInAll 37 = .ok (.iconst 0, 1) := by decide +kernel
theorem dX5_spentInAll_38 : decode cX5_spentInAll 38 = .ok (.iadd, 1) := by decide +kernel
theorem dX5_spentInAll_39 : decode cX5_spentInAll 39 = .ok (.istore_n 1, 1) := by decide +kernel
theorem dX5_spentInAll_40 : decode cX5_spentInAll 40 = .ok (.iinc 2 1, 3) := by decide +kernel
theorem dX5_spentInAll_43 : decode cX5_spentInAll 43 = .ok (.goto (-39), 3) := by decide +kernel
theorem dX5_spentInAll_46 : decode cX5_spentInAll 46 = .ok (.iload_n 1, 1) := by decide +kernel
theorem dX5_spentInAll_47 : decode cX5_spentInAll 47 = .ok (.ireturn, 1) := by decide +kernel
theorem dX5_toldWatches_0 : decode cX5_toldWatches 0 = .ok (.iconst 0, 1) := by decide +kernel
theorem dX5_toldWatches_1 : decode cX5_toldWatches 1 = .ok (.istore_n 1, 1) := by decide +kernel
theorem dX5_toldWatches_2 : decode cX5_toldWatches 2 = .ok (.iconst 0, 1) := by decide +kernel
theorem dX5_toldWatches_3 : decode cX5_toldWatches 3 = .ok (.istore_n 2, 1) := by decide +kernel
theorem dX5_toldWatches_4 : decode cX5_toldWatches 4 = .ok (.iload_n 2, 1) := by decide +kernel
theorem dX5_toldWatches_5 : decode cX5_toldWatches 5 = .ok (.bipush 8, 2) := by decide +kernel
theorem dX5_toldWatches_7 : decode cX5_toldWatches 7 = .ok (.if_icmp .ge 25, 3) := by decide +kernel
theorem dX5_toldWatches_10 : decode cX5_toldWatches 10 = .ok (.iload_n 1, 1) := by decide +kernel
theorem dX5_toldWatches_11 : decode cX5_toldWatches 11 = .ok (.aload_n 0, 1) := by decide +kernel
theorem dX5_toldWatches_12 : decode cX5_toldWatches 12 = .ok (.iload_n 2, 1) := by decide +kernel
theorem dX5_toldWatches_13 : decode cX5_toldWatches 13 = .ok (.invokevirtual 312, 3) := by decide +kernel
theorem dX5_toldWatches_16 : decode cX5_toldWatches 16 = .ok (.ifCond .eq 7, 3) := by decide +kernel
theorem dX5_toldWatches_19 : decode cX5_toldWatches 19 = .ok (.iconst 1, 1) := by decide +kernel
theorem dX5_toldWatches_20 : decode cX5_toldWatches 20 = .ok (.goto 4, 3) := by decide +kernel
theorem dX5_toldWatches_23 : decode cX5_toldWatches 23 = .ok (.iconst 0, 1) := by decide +kernel
theorem dX5_toldWatches_24 : decode cX5_toldWatches 24 = .ok (.iadd, 1) := by decide +kernel
theorem dX5_toldWatches_25 : decode cX5_toldWatches 25 = .ok (.istore_n 1, 1) := by decide +kernel
theorem dX5_toldWatches_26 : decode cX5_toldWatches 26 = .ok (.iinc 2 1, 3) := by decide +kernel
theorem dX5_toldWatches_29 : decode cX5_toldWatches 29 = .ok (.goto (-25), 3) := by decide +kernel
theorem dX5_toldWatches_32 : decode cX5_toldWatches 32 = .ok (.iload_n 1, 1) := by decide +kernel
theorem dX5_toldWatches_33 : decode cX5_toldWatches 33 = .ok (.ireturn, 1) := by decide +kernel
theorem dX5_fullBoxes_0 : decode cX5_fullBoxes 0 = .ok (.iconst 0, 1) := by decide +kernel
theorem dX5_fullBoxes_1 : decode cX5_fullBoxes 1 = .ok (.istore_n 1, 1) := by decide +kernel
theorem dX5_fullBoxes_2 : decode cX5_fullBoxes 2 = .ok (.iconst 0, 1) := by decide +kernel
theorem dX5_fullBoxes_3 : decode cX5_fullBoxes 3 = .ok (.istore_n 2, 1) := by decide +kernel
theorem dX5_fullBoxes_4 : decode cX5_fullBoxes 4 = .ok (.iload_n 2, 1) := by decide +kernel
theorem dX5_fullBoxes_5 : decode cX5_fullBoxes 5 = .ok (.iconst 3, 1) := by decide +kernel
theorem dX5_fullBoxes_6 : decode cX5_fullBoxes 6 = .ok (.if_icmp .ge 29, 3) := by decide +kernel
theorem dX5_fullBoxes_9 : decode cX5_fullBoxes 9 = .ok (.iload_n 1, 1) := by decide +kernel
theorem dX5_fullBoxes_10 : decode cX5_fullBoxes 10 = .ok (.aload_n 0, 1) := by decide +kernel
theorem dX5_fullBoxes_11 : decode cX5_fullBoxes 11 = .ok (.getfield 27, 3) := by decide +kernel
theorem dX5_fullBoxes_14 : decode cX5_fullBoxes 14 = .ok (.iload_n 2, 1) := by decide +kernel
theorem dX5_fullBoxes_15 : decode cX5_fullBoxes 15 = .ok (.aaload, 1) := by decide +kernel
theorem dX5_fullBoxes_16 : decode cX5_fullBoxes 16 = .ok (.getfield 94, 3) := by decide +kernel
theorem dX5_fullBoxes_19 : decode cX5_fullBoxes 19 = .ok (.ifCond .eq 7, 3) := by decide +kernel
theorem dX5_fullBoxes_22 : decode cX5_fullBoxes 22 = .ok (.iconst 1, 1) := by decide +kernel
theorem dX5_fullBoxes_23 : decode cX5_fullBoxes 23 = .ok (.goto 4, 3) := by decide +kernel
theorem dX5_fullBoxes_26 : decode cX5_fullBoxes 26 = .ok (.iconst 0, 1) := by decide +kernel
theorem dX5_fullBoxes_27 : decode cX5_fullBoxes 27 = .ok (.iadd, 1) := by decide +kernel
theorem dX5_fullBoxes_28 : decode cX5_fullBoxes 28 = .ok (.istore_n 1, 1) := by decide +kernel
theorem dX5_fullBoxes_29 : decode cX5_fullBoxes 29 = .ok (.iinc 2 1, 3) := by decide +kernel
theorem dX5_fullBoxes_32 : decode cX5_fullBoxes 32 = .ok (.goto (-28), 3) := by decide +kernel
theorem dX5_fullBoxes_35 : decode cX5_fullBoxes 35 = .ok (.iload_n 1, 1) := by decide +kernel
theorem dX5_fullBoxes_36 : decode cX5_fullBoxes 36 = .ok (.ireturn, 1) := by decide +kernel
theorem dX5_ringsInAll_0 : decode cX5_ringsInAll 0 = .ok (.iconst 0, 1) := by decide +kernel
theorem dX5_ringsInAll_1 : decode cX5_ringsInAll 1 = .ok (.istore_n 1, 1) := by decide +kernel
theorem dX5_ringsInAll_2 : decode cX5_ringsInAll 2 = .ok (.iconst 0, 1) := by decide +kernel
theorem dX5_ringsInAll_3 : decode cX5_ringsInAll 3 = .ok (.istore_n 2, 1) := by decide +kernel
theorem dX5_ringsInAll_4 : decode cX5_ringsInAll 4 = .ok (.iload_n 2, 1) := by decide +kernel
theorem dX5_ringsInAll_5 : decode cX5_ringsInAll 5 = .ok (.bipush 8, 2) := by decide +kernel
theorem dX5_ringsInAll_7 : decode cX5_ringsInAll 7 = .ok (.if_icmp .ge 33, 3) := by decide +kernel
theorem dX5_ringsInAll_10 : decode cX5_ringsInAll 10 = .ok (.iload_n 1, 1) := by decide +kernel
theorem dX5_ringsInAll_11 : decode cX5_ringsInAll 11 = .ok (.aload_n 0, 1) := by decide +kernel
theorem dX5_ringsInAll_12 : decode cX5_ringsInAll 12 = .ok (.iload_n 2, 1) := by decide +kernel
theorem dX5_ringsInAll_13 : decode cX5_ringsInAll 13 = .ok (.invokevirtual 312, 3) := by decide +kernel
theorem dX5_ringsInAll_16 : decode cX5_ringsInAll 16 = .ok (.ifCond .eq 15, 3) := by decide +kernel
theorem dX5_ringsInAll_19 : decode cX5_ringsInAll 19 = .ok (.aload_n 0, 1) := by decide +kernel
theorem dX5_ringsInAll_20 : decode cX5_ringsInAll 20 = .ok (.getfield 32, 3) := by decide +kernel
theorem dX5_ringsInAll_23 : decode cX5_ringsInAll 23 = .ok (.iload_n 2, 1) := by decide +kernel
theorem dX5_ringsInAll_24 : decode cX5_ringsInAll 24 = .ok (.aaload, 1) := by decide +kernel
theorem dX5_ringsInAll_25 : decode cX5_ringsInAll 25 = .ok (.getfield 315, 3) := by decide +kernel
theorem dX5_ringsInAll_28 : decode cX5_ringsInAll 28 = .ok (.goto 4, 3) := by decide +kernel
theorem dX5_ringsInAll_31 : decode cX5_ringsInAll 31 = .ok (.iconst 0, 1) := by decide +kernel
theorem dX5_ringsInAll_32 : decode cX5_ringsInAll 32 = .ok (.iadd, 1) := by decide +kernel
theorem dX5_ringsInAll_33 : decode cX5_ringsInAll 33 = .ok (.istore_n 1, 1) := by decide +kernel
theorem dX5_ringsInAll_34 : decode cX5_ringsInAll 34 = .ok (.iinc 2 1, 3) := by decide +kernel
theorem dX5_ringsInAll_37 : decode cX5_ringsInAll 37 = .ok (.goto (-33), 3) := by decide +kernel
theorem dX5_ringsInAll_40 : decode cX5_ringsInAll 40 = .ok (.iload_n 1, 1) := by decide +kernel
theorem dX5_ringsInAll_41 : decode cX5_ringsInAll 41 = .ok (.ireturn, 1) := by decide +kernel
theorem dX5_linksInAll_0 : decode cX5_linksInAll 0 = .ok (.iconst 0, 1) := by decide +kernel
theorem dX5_linksInAll_1 : decode cX5_linksInAll 1 = .ok (.istore_n 1, 1) := by decide +kernel
theorem dX5_linksInAll_2 : decode cX5_linksInAll 2 = .ok (.iconst 0, 1) := by decide +kernel
theorem dX5_linksInAll_3 : decode cX5_linksInAll 3 = .ok (.istore_n 2, 1) := by decide +kernel
theorem dX5_linksInAll_4 : decode cX5_linksInAll 4 = .ok (.iload_n 2, 1) := by decide +kernel
theorem dX5_linksInAll_5 : decode cX5_linksInAll 5 = .ok (.iconst 4, 1) := by decide +kernel
theorem dX5_linksInAll_6 : decode cX5_linksInAll 6 = .ok (.if_icmp .ge 30, 3) := by decide +kernel
theorem dX5_linksInAll_9 : decode cX5_linksInAll 9 = .ok (.iload_n 1, 1) := by decide +kernel
theorem dX5_linksInAll_10 : decode cX5_linksInAll 10 = .ok (.aload_n 0, 1) := by decide +kernel
theorem dX5_linksInAll_11 : decode cX5_linksInAll 11 = .ok (.getfield 19, 3) := by decide +kernel
theorem dX5_linksInAll_14 : decode cX5_linksInAll 14 = .ok (.iload_n 2, 1) := by decide +kernel
theorem dX5_linksInAll_15 : decode cX5_linksInAll 15 = .ok (.aaload, 1) := by decide +kernel
theorem dX5_linksInAll_16 : decode cX5_linksInAll 16 = .ok (.getfield 215, 3) := by decide +kernel
theorem dX5_linksInAll_19 : decode cX5_linksInAll 19 = .ok (.iconst (-1), 1) := by decide +kernel
theorem dX5_linksInAll_20 : decode cX5_linksInAll 20 = .ok (.if_icmp .eq 7, 3) := by decide +kernel
theorem dX5_linksInAll_23 : decode cX5_linksInAll 23 = .ok (.iconst 1, 1) := by decide +kernel
theorem dX5_linksInAll_24 : decode cX5_linksInAll 24 = .ok (.goto 4, 3) := by decide +kernel
theorem dX5_linksInAll_27 : decode cX5_linksInAll 27 = .ok (.iconst 0, 1) := by decide +kernel
theorem dX5_linksInAll_28 : decode cX5_linksInAll 28 = .ok (.iadd, 1) := by decide +kernel
theorem dX5_linksInAll_29 : decode cX5_linksInAll 29 = .ok (.istore_n 1, 1) := by decide +kernel
theorem dX5_linksInAll_30 : decode cX5_linksInAll 30 = .ok (.iinc 2 1, 3) := by decide +kernel
theorem dX5_linksInAll_33 : decode cX5_linksInAll 33 = .ok (.goto (-29), 3) := by decide +kernel
theorem dX5_linksInAll_36 : decode cX5_linksInAll 36 = .ok (.iload_n 1, 1) := by decide +kernel
theorem dX5_linksInAll_37 : decode cX5_linksInAll 37 = .ok (.ireturn, 1) := by decide +kernel
theorem dX5_within_0 : decode cX5_within 0 = .ok (.iload_n 1, 1) := by decide +kernel
theorem dX5_within_1 : decode cX5_within 1 = .ok (.iload_n 0, 1) := by decide +kernel
theorem dX5_within_2 : decode cX5_within 2 = .ok (.if_icmp .gt 12, 3) := by decide +kernel
theorem dX5_within_5 : decode cX5_within 5 = .ok (.iload_n 0, 1) := by decide +kernel
theorem dX5_within_6 : decode cX5_within 6 = .ok (.iload_n 2, 1) := by decide +kernel
theorem dX5_within_7 : decode cX5_within 7 = .ok (.if_icmp .gt 7, 3) := by decide +kernel
theorem dX5_within_10 : decode cX5_within 10 = .ok (.iconst 1, 1) := by decide +kernel
theorem dX5_within_11 : decode cX5_within 11 = .ok (.goto 4, 3) := by decide +kernel
theorem dX5_within_14 : decode cX5_within 14 = .ok (.iconst 0, 1) := by decide +kernel
theorem dX5_within_15 : decode cX5_within 15 = .ok (.ireturn, 1) := by decide +kernel
theorem dX5_isLane_0 : decode cX5_isLane 0 = .ok (.iload_n 0, 1) := by decide +kernel
theorem dX5_isLane_1 : decode cX5_isLane 1 = .ok (.iconst 0, 1) := by decide +kernel
theorem dX5_isLane_2 : decode cX5_isLane 2 = .ok (.iconst 3, 1) := by decide +kernel
theorem dX5_isLane_3 : decode cX5_isLane 3 = .ok (.invokestatic 59, 3) := by decide +kernel
theorem dX5_isLane_6 : decode cX5_isLane 6 = .ok (.ireturn, 1) := by decide +kernel
theorem dX5_isTime_0 : decode cX5_isTime 0 = .ok (.iload_n 0, 1) := by decide +kernel
theorem dX5_isTime_1 : decode cX5_isTime 1 = .ok (.iconst 0, 1) := by decide +kernel
theorem dX5_isTime_2 : decode cX5_isTime 2 = .ok (.ldc_w 284, 3) := by decide +kernel
theorem dX5_isTime_5 : decode cX5_isTime 5 = .ok (.invokestatic 59, 3) := by decide +kernel
theorem dX5_isTime_8 : decode cX5_isTime 8 = .ok (.ireturn, 1) := by decide +kernel
theorem dX5_isValue_0 : decode cX5_isValue 0 = .ok (.iload_n 0, 1) := by decide +kernel
theorem dX5_isValue_1 : decode cX5_isValue 1 = .ok (.sipush (-1000), 3) := by decide +kernel
theorem dX5_isValue_4 : decode cX5_isValue 4 = .ok (.sipush 1000, 3) := by decide +kernel
theorem dX5_isValue_7 : decode cX5_isValue 7 = .ok (.invokestatic 59, 3) := by decide +kernel
theorem dX5_isValue_10 : decode cX5_isValue 10 = .ok (.ireturn, 1) := by decide +kernel
theorem dX5_isGap_0 : decode cX5_isGap 0 = .ok (.iload_n 0, 1) := by decide +kernel
theorem dX5_isGap_1 : decode cX5_isGap 1 = .ok (.iconst 0, 1) := by decide +kernel
theorem dX5_isGap_2 : decode cX5_isGap 2 = .ok (.ldc_w 284, 3) := by decide +kernel
theorem dX5_isGap_5 : decode cX5_isGap 5 = .ok (.invokestatic 59, 3) := by decide +kernel
theorem dX5_isGap_8 : decode cX5_isGap 8 = .ok (.ireturn, 1) := by decide +kernel
theorem dX5_openLane_0 : decode cX5_openLane 0 = .ok (.iload_n 1, 1) := by decide +kernel
theorem dX5_openLane_1 : decode cX5_openLane 1 = .ok (.invokestatic 102, 3) := by decide +kernel
theorem dX5_openLane_4 : decode cX5_openLane 4 = .ok (.ifCond .eq 24, 3) := by decide +kernel
theorem dX5_openLane_7 : decode cX5_openLane 7 = .ok (.aload_n 0, 1) := by decide +kernel
theorem dX5_openLane_8 : decode cX5_openLane 8 = .ok (.getfield 13, 3) := by decide +kernel
theorem dX5_openLane_11 : decode cX5_openLane 11 = .ok (.iload_n 1, 1) := by decide +kernel
theorem dX5_openLane_12 : decode cX5_openLane 12 = .ok (.aaload, 1) := by decide +kernel
theorem dX5_openLane_13 : decode cX5_openLane 13 = .ok (.getfield 94, 3) := by decide +kernel
theorem dX5_openLane_16 : decode cX5_openLane 16 = .ok (.ifCond .eq 12, 3) := by decide +kernel
theorem dX5_openLane_19 : decode cX5_openLane 19 = .ok (.aload_n 0, 1) := by decide +kernel
theorem dX5_openLane_20 : decode cX5_openLane 20 = .ok (.getfield 13, 3) := by decide +kernel
theorem dX5_openLane_23 : decode cX5_openLane 23 = .ok (.iload_n 1, 1) := by decide +kernel
theorem dX5_openLane_24 : decode cX5_openLane 24 = .ok (.aaload, 1) := by decide +kernel
theorem dX5_openLane_25 : decode cX5_openLane 25 = .ok (.goto 4, 3) := by decide +kernel
theorem dX5_openLane_28 : decode cX5_openLane 28 = .ok (.aconst_null, 1) := by decide +kernel
theorem dX5_openLane_29 : decode cX5_openLane 29 = .ok (.areturn, 1) := by decide +kernel
theorem dX5_laneWith_0 : decode cX5_laneWith 0 = .ok (.aload_n 0, 1) := by decide +kernel
theorem dX5_laneWith_1 : decode cX5_laneWith 1 = .ok (.iload_n 1, 1) := by decide +kernel
theorem dX5_laneWith_2 : decode cX5_laneWith 2 = .ok (.invokevirtual 123, 3) := by decide +kernel
theorem dX5_laneWith_5 : decode cX5_laneWith 5 = .ok (.astore_n 3, 1) := by decide +kernel
theorem dX5_laneWith_6 : decode cX5_laneWith 6 = .ok (.aload_n 3, 1) := by decide +kernel
theorem dX5_laneWith_7 : decode cX5_laneWith 7 = .ok (.ifnull 15, 3) := by decide +kernel
theorem dX5_laneWith_10 : decode cX5_laneWith 10 = .ok (.aload_n 3, 1) := by decide +kernel
theorem dX5_laneWith_11 : decode cX5_laneWith 11 = .ok (.iload_n 2, 1) := by decide +kernel
theorem dX5_laneWith_12 : decode cX5_laneWith 12 = .ok (.invokevirtual 266, 3) := by decide +kernel
theorem dX5_laneWith_15 : decode cX5_laneWith 15 = .ok (.ifCond .eq 7, 3) := by decide +kernel
theorem dX5_laneWith_18 : decode cX5_laneWith 18 = .ok (.aload_n 3, 1) := by decide +kernel
theorem dX5_laneWith_19 : decode cX5_laneWith 19 = .ok (.goto 4, 3) := by decide +kernel
theorem dX5_laneWith_22 : decode cX5_laneWith 22 = .ok (.aconst_null, 1) := by decide +kernel
theorem dX5_laneWith_23 : decode cX5_laneWith 23 = .ok (.areturn, 1) := by decide +kernel
theorem dX5_laneHolding_0 : decode cX5_laneHolding 0 = .ok (.aload_n 0, 1) := by decide +kernel
theorem dX5_laneHolding_1 : decode cX5_laneHolding 1 = .ok (.iload_n 1, 1) := by decide +kernel
theorem dX5_laneHolding_2 : decode cX5_laneHolding 2 = .ok (.invokevirtual 123, 3) := by decide +kernel
theorem dX5_laneHolding_5 : decode cX5_laneHolding 5 = .ok (.astore_n 3, 1) := by decide +kernel
theorem dX5_laneHolding_6 : decode cX5_laneHolding 6 = .ok (.aload_n 3, 1) := by decide +kernel
theorem dX5_laneHolding_7 : decode cX5_laneHolding 7 = .ok (.ifnull 21, 3) := by decide +kernel
theorem dX5_laneHolding_10 : decode cX5_laneHolding 10 = .ok (.iload_n 2, 1) := by decide +kernel
theorem dX5_laneHolding_11 : decode cX5_laneHolding 11 = .ok (.iconst 0, 1) := by decide +kernel
theorem dX5_laneHolding_12 : decode cX5_laneHolding 12 = .ok (.aload_n 3, 1) := by decide +kernel
theorem dX5_laneHolding_13 : decode cX5_laneHolding 13 = .ok (.getfield 154, 3) := by decide +kernel
theorem dX5_laneHolding_16 : decode cX5_laneHolding 16 = .ok (.iconst 1, 1) := by decide +kernel
theorem dX5_laneHolding_17 : decode cX5_laneHolding 17 = .ok (.isub, 1) := by decide +kernel
theorem dX5_laneHolding_18 : decode cX5_laneHolding 18 = .ok (.invokestatic 59, 3) := by decide +kernel
theorem dX5_laneHolding_21 : decode cX5_laneHolding 21 = .ok (.ifCond .eq 7, 3) := by decide +kernel
theorem dX5_laneHolding_24 : decode cX5_laneHolding 24 = .ok (.aload_n 3, 1) := by decide +kernel
theorem dX5_laneHolding_25 : decode cX5_laneHolding 25 = .ok (.goto 4, 3) := by decide +kernel
theorem dX5_laneHolding_28 : decode cX5_laneHolding 28 = .ok (.aconst_null, 1) := by decide +kernel
theorem dX5_laneHolding_29 : decode cX5_laneHolding 29 = .ok (.areturn, 1) := by decide +kernel
theorem dX5_comesTo_0 : decode cX5_comesTo 0 = .ok (.aload_n 0, 1) := by decide +kernel
theorem dX5_comesTo_1 : decode cX5_comesTo 1 = .ok (.aload_n 1, 1) := by decide +kernel
theorem dX5_comesTo_2 : decode cX5_comesTo 2 = .ok (.iload_n 2, 1) := by decide +kernel
theorem dX5_comesTo_3 : decode cX5_comesTo 3 = .ok (.iload_n 3, 1) := by decide +kernel
theorem dX5_comesTo_4 : decode cX5_comesTo 4 = .ok (.invokevirtual 259, 3) := by decide +kernel
theorem dX5_comesTo_7 : decode cX5_comesTo 7 = .ok (.aload_n 0, 1) := by decide +kernel
theorem dX5_comesTo_8 : decode cX5_comesTo 8 = .ok (.getfield 40, 3) := by decide +kernel
theorem dX5_comesTo_11 : decode cX5_comesTo 11 = .ok (.iload 4, 2) := by decide +kernel
theorem dX5_comesTo_13 : decode cX5_comesTo 13 = .ok (.invokevirtual 273, 3) := by decide +kernel
theorem dX5_comesTo_16 : decode cX5_comesTo 16 = .ok (.ireturn, 1) := by decide +kernel
theorem dX5_comesToWithout_0 : decode cX5_comesToWithout 0 = .ok (.aload_n 0, 1) := by decide +kernel
theorem dX5_comesToWithout_1 : decode cX5_comesToWithout 1 = .ok (.aload_n 1, 1) := by decide +kernel
theorem dX5_comesToWithout_2 : decode cX5_comesToWithout 2 = .ok (.iconst 0, 1) := by decide +kernel
theorem dX5_comesToWithout_3 : decode cX5_comesToWithout 3 = .ok (.iload_n 2, 1) := by decide +kernel
theorem dX5_comesToWithout_4 : decode cX5_comesToWithout 4 = .ok (.invokevirtual 259, 3) := by decide +kernel
theorem dX5_comesToWithout_7 : decode cX5_comesToWithout 7 = .ok (.iload_n 2, 1) := by decide +kernel
theorem dX5_comesToWithout_8 : decode cX5_comesToWithout 8 = .ok (.iconst 1, 1) := by decide +kernel
theorem dX5_comesToWithout_9 : decode cX5_comesToWithout 9 = .ok (.iadd, 1) := by decide +kernel
theorem dX5_comesToWithout_10 : decode cX5_comesToWithout 10 = .ok (.istore 4, 2) := by decide +kernel
theorem dX5_comesToWithout_12 : decode cX5_comesToWithout 12 = .ok (.iload 4, 2) := by decide +kernel
theorem dX5_comesToWithout_14 : decode cX5_comesToWithout 14 = .ok (.aload_n 1, 1) := by decide +kernel
theorem dX5_comesToWithout_15 : decode cX5_comesToWithout 15 = .ok (.getfield 154, 3) := by decide +kernel
theorem dX5_comesToWithout_18 : decode cX5_comesToWithout 18 = .ok (.if_icmp .ge 23, 3) := by decide +kernel
theorem dX5_comesToWithout_21 : decode cX5_comesToWithout 21 = .ok (.aload_n 0, 1) := by decide +kernel
theorem dX5_comesToWithout_22 : decode cX5_comesToWithout 22 = .ok (.getfield 40, 3) := by decide +kernel
theorem dX5_comesToWithout_25 : decode cX5_comesToWithout 25 = .ok (.aload_n 1, 1) := by decide +kernel
theorem dX5_comesToWithout_26 : decode cX5_comesToWithout 26 = .ok (.getfield 176, 3) := by decide +kernel
theorem dX5_comesToWithout_29 : decode cX5_comesToWithout 29 = .ok (.iload 4, 2) := by decide +kernel
theorem dX5_comesToWithout_31 : decode cX5_comesToWithout 31 = .ok (.iaload, 1) := by decide +kernel
theorem dX5_comesToWithout_32 : decode cX5_comesToWithout 32 = .ok (.invokevirtual 253, 3) := by decide +kernel
theorem dX5_comesToWithout_35 : decode cX5_comesToWithout 35 = .ok (.iinc 4 1, 3) := by decide +kernel
theorem dX5_comesToWithout_38 : decode cX5_comesToWithout 38 = .ok (.goto (-26), 3) := by decide +kernel
theorem dX5_comesToWithout_41 : decode cX5_comesToWithout 41 = .ok (.aload_n 0, 1) := by decide +kernel
theorem dX5_comesToWithout_42 : decode cX5_comesToWithout 42 = .ok (.getfield 40, 3) := by decide +kernel
theorem dX5_comesToWithout_45 : decode cX5_comesToWithout 45 = .ok (.iload_n 3, 1) := by decide +kernel
theorem dX5_comesToWithout_46 : decode cX5_comesToWithout 46 = .ok (.invokevirtual 273, 3) := by decide +kernel
theorem dX5_comesToWithout_49 : decode cX5_comesToWithout 49 = .ok (.ireturn, 1) := by decide +kernel
theorem dX5_foldPart_0 : decode cX5_foldPart 0 = .ok (.aload_n 0, 1) := by decide +kernel
theorem dX5_foldPart_1 : decode cX5_foldPart 1 = .ok (.getfield 40, 3) := by decide +kernel
theorem dX5_foldPart_4 : decode cX5_foldPart 4 = .ok (.aload_n 1, 1) := by decide +kernel
theorem dX5_foldPart_5 : decode cX5_foldPart 5 = .ok (.getfield 98, 3) := by decide +kernel
theorem dX5_foldPart_8 : decode cX5_foldPart 8 = .ok (.invokevirtual 251, 3) := by decide +kernel
theorem dX5_foldPart_11 : decode cX5_foldPart 11 = .ok (.iload_n 2, 1) := by decide +kernel
theorem dX5_foldPart_12 : decode cX5_foldPart 12 = .ok (.istore 4, 2) := by decide +kernel
theorem dX5_foldPart_14 : decode cX5_foldPart 14 = .ok (.iload 4, 2) := by decide +kernel
theorem dX5_foldPart_16 : decode cX5_foldPart 16 = .ok (.iload_n 3, 1) := by decide +kernel
theorem dX5_foldPart_17 : decode cX5_foldPart 17 = .ok (.if_icmp .ge 23, 3) := by decide +kernel
theorem dX5_foldPart_20 : decode cX5_foldPart 20 = .ok (.aload_n 0, 1) := by decide +kernel
theorem dX5_foldPart_21 : decode cX5_foldPart 21 = .ok (.getfield 40, 3) := by decide +kernel
theorem dX5_foldPart_24 : decode cX5_foldPart 24 = .ok (.aload_n 1, 1) := by decide +kernel
theorem dX5_foldPart_25 : decode cX5_foldPart 25 = .ok (.getfield 176, 3) := by decide +kernel
theorem dX5_foldPart_28 : decode cX5_foldPart 28 = .ok (.iload 4, 2) := by decide +kernel
theorem dX5_foldPart_30 : decode cX5_foldPart 30 = .ok (.iaload, 1) := by decide +kernel
theorem dX5_foldPart_31 : decode cX5_foldPart 31 = .ok (.invokevirtual 253, 3) := by decide +kernel
theorem dX5_foldPart_34 : decode cX5_foldPart 34 = .ok (.iinc 4 1, 3) := by decide +kernel
theorem dX5_foldPart_37 : decode cX5_foldPart 37 = .ok (.goto (-23), 3) := by decide +kernel
theorem dX5_foldPart_40 : decode cX5_foldPart 40 = .ok (.return_, 1) := by decide +kernel
theorem dX6_init_0 : decode cX6_init 0 = .ok (.aload_n 0, 1) := by decide +kernel
theorem dX6_init_1 : decode cX6_init 1 = .ok (.invokespecial 1, 3) := by decide +kernel
theorem dX6_init_4 : decode cX6_init 4 = .ok (.aload_n 0, 1) := by decide +kernel
theorem dX6_init_5 : decode cX6_init 5 = .ok (.sipush 176, 3) := by decide +kernel
theorem dX6_init_8 : decode cX6_init 8 = .ok (.newarray .int, 2) := by decide +kernel
theorem dX6_init_10 : decode cX6_init 10 = .ok (.putfield 7, 3) := by decide +kernel
theorem dX6_init_13 : decode cX6_init 13 = .ok (.aload_n 0, 1) := by decide +kernel
theorem dX6_init_14 : decode cX6_init 14 = .ok (.sipush 968, 3) := by decide +kernel
theorem dX6_init_17 : decode cX6_init 17 = .ok (.newarray .int, 2) := by decide +kernel
theorem dX6_init_19 : decode cX6_init 19 = .ok (.putfield 13, 3) := by decide +kernel
theorem dX6_init_22 : decode cX6_init 22 = .ok (.aload_n 0, 1) := by decide +kernel
theorem dX6_init_23 : decode cX6_init 23 = .ok (.sipush 968, 3) := by decide +kernel
theorem dX6_init_26 : decode cX6_init 26 = .ok (.newarray .int, 2) := by decide +kernel
theorem dX6_init_28 : decode cX6_init 28 = .ok (.putfield 16, 3) := by decide +kernel
theorem dX6_init_31 : decode cX6_init 31 = .ok (.aload_n 0, 1) := by decide +kernel
theorem dX6_init_32 : decode cX6_init 32 = .ok (.sipush 968, 3) := by decide +kernel
theorem dX6_init_35 : decode cX6_init 35 = .ok (.newarray .int, 2) := by decide +kernel
theorem dX6_init_37 : decode cX6_init 37 = .ok (.putfield 19, 3) := by decide +kernel
theorem dX6_init_40 : decode cX6_init 40 = .ok (.aload_n 0, 1) := by decide +kernel
theorem dX6_init_41 : decode cX6_init 41 = .ok (.bipush 16, 2) := by decide +kernel
theorem dX6_init_43 : decode cX6_init 43 = .ok (.newarray .int, 2) := by decide +kernel
theorem dX6_init_45 : decode cX6_init 45 = .ok (.putfield 22, 3) := by decide +kernel
theorem dX6_init_48 : decode cX6_init 48 = .ok (.aload_n 0, 1) := by decide +kernel
theorem dX6_init_49 : decode cX6_init 49 = .ok (.bipush 8, 2) := by decide +kernel
theorem dX6_init_51 : decode cX6_init 51 = .ok (.newarray .int, 2) := by decide +kernel
theorem dX6_init_53 : decode cX6_init 53 = .ok (.putfield 25, 3) := by decide +kernel
theorem dX6_init_56 : decode cX6_init 56 = .ok (.aload_n 0, 1) := by decide +kernel
theorem dX6_init_57 : decode cX6_init 57 = .ok (.sipush 242, 3) := by decide +kernel
theorem dX6_init_60 : decode cX6_init 60 = .ok (.newarray .int, 2) := by decide +kernel
theorem dX6_init_62 : decode cX6_init 62 = .ok (.putfield 28, 3) := by decide +kernel
theorem dX6_init_65 : decode cX6_init 65 = .ok (.aload_n 0, 1) := by decide +kernel
theorem dX6_init_66 : decode cX6_init 66 = .ok (.bipush 7, 2) := by decide +kernel
theorem dX6_init_68 : decode cX6_init 68 = .ok (.newarray .int, 2) := by decide +kernel
theorem dX6_init_70 : decode cX6_init 70 = .ok (.putfield 31, 3) := by decide +kernel
theorem dX6_init_73 : decode cX6_init 73 = .ok (.aload_n 0, 1) := by decide +kernel
theorem dX6_init_74 : decode cX6_init 74 = .ok (.bipush 8, 2) := by decide +kernel
theorem dX6_init_76 : decode cX6_init 76 = .ok (.newarray .int, 2) := by decide +kernel
theorem dX6_init_78 : decode cX6_init 78 = .ok (.putfield 34, 3) := by decide +kernel
theorem dX6_init_81 : decode cX6_init 81 = .ok (.aload_n 0, 1) := by decide +kernel
theorem dX6_init_82 : decode cX6_init 82 = .ok (.bipush 8, 2) := by decide +kernel
theorem dX6_init_84 : decode cX6_init 84 = .ok (.newarray .int, 2) := by decide +kernel
theorem dX6_init_86 : decode cX6_init 86 = .ok (.putfield 37, 3) := by decide +kernel
theorem dX6_init_89 : decode cX6_init 89 = .ok (.aload_n 0, 1) := by decide +kernel
theorem dX6_init_90 : decode cX6_init 90 = .ok (.bipush 8, 2) := by decide +kernel
theorem dX6_init_92 : decode cX6_init 92 = .ok (.newarray .int, 2) := by decide +kernel
theorem dX6_init_94 : decode cX6_init 94 = .ok (.putfield 40, 3) := by decide +kernel
theorem dX6_init_97 : decode cX6_init 97 = .ok (.aload_n 0, 1) := by decide +kernel
theorem dX6_init_98 : decode cX6_init 98 = .ok (.bipush 8, 2) := by decide +kernel
theorem dX6_init_100 : decode cX6_init 100 = .ok (.newarray .int, 2) := by decide +kernel
theorem dX6_init_102 : decode cX6_init 102 = .ok (.putfield 43, 3) := by decide +kernel
theorem dX6_init_105 : decode cX6_init 105 = .ok (.aload_n 0, 1) := by decide +kernel
theorem dX6_init_106 : decode cX6_init 106 = .ok (.bipush 8, 2) := by decide +kernel
theorem dX6_init_108 : decode cX6_init 108 = .ok (.newarray .int, 2) := by decide +kernel
theorem dX6_init_110 : decode cX6_init 110 = .ok (.putfield 46, 3) := by decide +kernel
theorem dX6_init_113 : decode cX6_init 113 = .ok (.aload_n 0, 1) := by decide +kernel
theorem dX6_init_114 : decode cX6_init 114 = .ok (.bipush 8, 2) := by decide +kernel
theorem dX6_init_116 : decode cX6_init 116 = .ok (.newarray .int, 2) := by decide +kernel
theorem dX6_init_118 : decode cX6_init 118 = .ok (.putfield 49, 3) := by decide +kernel
theorem dX6_init_121 : decode cX6_init 121 = .ok (.aload_n 0, 1) := by decide +kernel
theorem dX6_init_122 : decode cX6_init 122 = .ok (.iconst 4, 1) := by decide +kernel
theorem dX6_init_123 : decode cX6_init 123 = .ok (.newarray .int, 2) := by decide +kernel
theorem dX6_init_125 : decode cX6_init 125 = .ok (.putfield 52, 3) := by decide +kernel
theorem dX6_init_128 : decode cX6_init 128 = .ok (.aload_n 0, 1) := by decide +kernel
theorem dX6_init_129 : decode cX6_init 129 = .ok (.iconst 4, 1) := by decide +kernel
theorem dX6_init_130 : decode cX6_init 130 = .ok (.newarray .int, 2) := by decide +kernel
theorem dX6_init_132 : decode cX6_init 132 = .ok (.putfield 55, 3) := by decide +kernel
theorem dX6_init_135 : decode cX6_init 135 = .ok (.aload_n 0, 1) := by decide +kernel
theorem dX6_init_136 : decode cX6_init 136 = .ok (.iconst 4, 1) := by decide +kernel
theorem dX6_init_137 : decode cX6_init 137 = .ok (.newarray .int, 2) := by decide +kernel
theorem dX6_init_139 : decode cX6_init 139 = .ok (.putfield 58, 3) := by decide +kernel
theorem dX6_init_142 : decode cX6_init 142 = .ok (.aload_n 0, 1) := by decide +kernel
theorem dX6_init_143 : decode cX6_init 143 = .ok (.iconst 4, 1) := by decide +kernel
theorem dX6_init_144 : decode cX6_init 144 = .ok (.newarray .int, 2) := by decide +kernel
theorem dX6_init_146 : decode cX6_init 146 = .ok (.putfield 61, 3) := by decide +kernel
theorem dX6_init_149 : decode cX6_init 149 = .ok (.aload_n 0, 1) := by decide +kernel
theorem dX6_init_150 : decode cX6_init 150 = .ok (.bipush 7, 2) := by decide +kernel
theorem dX6_init_152 : decode cX6_init 152 = .ok (.newarray .int, 2) := by decide +kernel
theorem dX6_init_154 : decode cX6_init 154 = .ok (.putfield 64, 3) := by decide +kernel
theorem dX6_init_157 : decode cX6_init 157 = .ok (.aload_n 0, 1) := by decide +kernel
theorem dX6_init_158 : decode cX6_init 158 = .ok (.sipush 14400, 3) := by decide +kernel
theorem dX6_init_161 : decode cX6_init 161 = .ok (.newarray .int, 2) := by decide +kernel
theorem dX6_init_163 : decode cX6_init 163 = .ok (.putfield 67, 3) := by decide +kernel
theorem dX6_init_166 : decode cX6_init 166 = .ok (.aload_n 0, 1) := by decide +kernel
theorem dX6_init_167 : decode cX6_init 167 = .ok (.sipush 605, 3) := by decide +kernel
theorem dX6_init_170 : decode cX6_init 170 = .ok (.newarray .int, 2) := by decide +kernel
theorem dX6_init_172 : decode cX6_init 172 = .ok (.putfield 70, 3) := by decide +kernel
theorem dX6_init_175 : decode cX6_init 175 = .ok (.aload_n 0, 1) := by decide +kernel
theorem dX6_init_176 : decode cX6_init 176 = .ok (.sipush 605, 3) := by decide +kernel
theorem dX6_init_179 : decode cX6_init 179 = .ok (.newarray .int, 2) := by decide +kernel
theorem dX6_init_181 : decode cX6_init 181 = .ok (.putfield 73, 3) := by decide +kernel
theorem dX6_init_184 : decode cX6_init 184 = .ok (.iconst 0, 1) := by decide +kernel
theorem dX6_init_185 : decode cX6_init 185 = .ok (.istore_n 1, 1) := by decide +kernel
theorem dX6_init_186 : decode cX6_init 186 = .ok (.iload_n 1, 1) := by decide +kernel
theorem dX6_init_187 : decode cX6_init 187 = .ok (.bipush 8, 2) := by decide +kernel
theorem dX6_init_189 : decode cX6_init 189 = .ok (.if_icmp .ge 18, 3) := by decide +kernel
theorem dX6_init_192 : decode cX6_init 192 = .ok (.aload_n 0, 1) := by decide +kernel
theorem dX6_init_193 : decode cX6_init 193 = .ok (.getfield 25, 3) := by decide +kernel
theorem dX6_init_196 : decode cX6_init 196 = .ok (.iload_n 1, 1) := by decide +kernel
theorem dX6_init_197 : decode cX6_init 197 = .ok (.sipush 228, 3) := by decide +kernel
theorem dX6_init_200 : decode cX6_init 200 = .ok (.iastore, 1) := by decide +kernel
theorem dX6_init_201 : decode cX6_init 201 = .ok (.iinc 1 1, 3) := by decide +kernel
theorem dX6_init_204 : decode cX6_init 204 = .ok (.goto (-18), 3) := by decide +kernel
theorem dX6_init_207 : decode cX6_init 207 = .ok (.iconst 0, 1) := by decide +kernel
theorem dX6_init_208 : decode cX6_init 208 = .ok (.istore_n 1, 1) := by decide +kernel
theorem dX6_init_209 : decode cX6_init 209 = .ok (.iload_n 1, 1) := by decide +kernel
theorem dX6_init_210 : decode cX6_init 210 = .ok (.bipush 8, 2) := by decide +kernel
theorem dX6_init_212 : decode cX6_init 212 = .ok (.if_icmp .ge 16, 3) := by decide +kernel
theorem dX6_init_215 : decode cX6_init 215 = .ok (.aload_n 0, 1) := by decide +kernel
theorem dX6_init_216 : decode cX6_init 216 = .ok (.getfield 34, 3) := by decide +kernel
theorem dX6_init_219 : decode cX6_init 219 = .ok (.iload_n 1, 1) := by decide +kernel
theorem dX6_init_220 : decode cX6_init 220 = .ok (.iconst (-1), 1) := by decide +kernel
theorem dX6_init_221 : decode cX6_init 221 = .ok (.iastore, 1) := by decide +kernel
theorem dX6_init_222 : decode cX6_init 222 = .ok (.iinc 1 1, 3) := by decide +kernel
theorem dX6_init_225 : decode cX6_init 225 = .ok (.goto (-16), 3) := by decide +kernel
theorem dX6_init_228 : decode cX6_init 228 = .ok (.iconst 0, 1) := by decide +kernel
theorem dX6_init_229 : decode cX6_init 229 = .ok (.istore_n 1, 1) := by decide +kernel
theorem dX6_init_230 : decode cX6_init 230 = .ok (.iload_n 1, 1) := by decide +kernel
theorem dX6_init_231 : decode cX6_init 231 = .ok (.iconst 4, 1) := by decide +kernel
theorem dX6_init_232 : decode cX6_init 232 = .ok (.if_icmp .ge 16, 3) := by decide +kernel
theorem dX6_init_235 : decode cX6_init 235 = .ok (.aload_n 0, 1) := by decide +kernel
theorem dX6_init_236 : decode cX6_init 236 = .ok (.getfield 52, 3) := by decide +kernel
theorem dX6_init_239 : decode cX6_init 239 = .ok (.iload_n 1, 1) := by decide +kernel
theorem dX6_init_240 : decode cX6_init 240 = .ok (.iconst (-1), 1) := by decide +kernel
theorem dX6_init_241 : decode cX6_init 241 = .ok (.iastore, 1) := by decide +kernel
theorem dX6_init_242 : decode cX6_init 242 = .ok (.iinc 1 1, 3) := by decide +kernel
theorem dX6_init_245 : decode cX6_init 245 = .ok (.goto (-15), 3) := by decide +kernel
theorem dX6_init_248 : decode cX6_init 248 = .ok (.return_, 1) := by decide +kernel
theorem dX6_isIn_0 : decode cX6_isIn 0 = .ok (.iload_n 0, 1) := by decide +kernel
theorem dX6_isIn_1 : decode cX6_isIn 1 = .ok (.iload_n 1, 1) := by decide +kernel
theorem dX6_isIn_2 : decode cX6_isIn 2 = .ok (.if_icmp .lt 12, 3) := by decide +kernel
theorem dX6_isIn_5 : decode cX6_isIn 5 = .ok (.iload_n 0, 1) := by decide +kernel
theorem dX6_isIn_6 : decode cX6_isIn 6 = .ok (.iload_n 2, 1) := by decide +kernel
theorem dX6_isIn_7 : decode cX6_isIn 7 = .ok (.if_icmp .gt 7, 3) := by decide +kernel
theorem dX6_isIn_10 : decode cX6_isIn 10 = .ok (.iconst 1, 1) := by decide +kernel
theorem dX6_isIn_11 : decode cX6_isIn 11 = .ok (.goto 4, 3) := by decide +kernel
theorem dX6_isIn_14 : decode cX6_isIn 14 = .ok (.iconst 0, 1) := by decide +kernel
theorem dX6_isIn_15 : decode cX6_isIn 15 = .ok (.ireturn, 1) := by decide +kernel
theorem dX6_isLane_0 : decode cX6_isLane 0 = .ok (.iload_n 1, 1) := by decide +kernel
theorem dX6_isLane_1 : decode cX6_isLane 1 = .ok (.iconst 0, 1) := by decide +kernel
theorem dX6_isLane_2 : decode cX6_isLane 2 = .ok (.iconst 3, 1) := by decide +kernel
theorem dX6_isLane_3 : decode cX6_isLane 3 = .ok (.invokestatic 76, 3) := by decide +kernel
theorem dX6_isLane_6 : decode cX6_isLane 6 = .ok (.ifCond .eq 22, 3) := by decide +kernel
theorem dX6_isLane_9 : decode cX6_isLane 9 = .ok (.aload_n 0, 1) := by decide +kernel
theorem dX6_isLane_10 : decode cX6_isLane 10 = .ok (.getfield 7, 3) := by decide +kernel
theorem dX6_isLane_13 : decode cX6_isLane 13 = .ok (.bipush 22, 2) := by decide +kernel
theorem dX6_isLane_15 : decode cX6_isLane 15 = .ok (.iload_n 1, 1) := by decide +kernel
theorem dX6_isLane_16 : decode cX6_isLane 16 = .ok (.imul, 1) := by decide +kernel
theorem dX6_isLane_17 : decode cX6_isLane 17 = .ok (.iconst 0, 1) := by decide +kernel
theorem dX6_isLane_18 : decode cX6_isLane 18 = .ok (.iadd, 1) := by decide +kernel
theorem dX6_isLane_19 : decode cX6_isLane 19 = .ok (.iaload, 1) := by decide +kernel
theorem dX6_isLane_20 : decode cX6_isLane 20 = .ok (.iconst 1, 1) := by decide +kernel
theorem dX6_isLane_21 : decode cX6_isLane 21 = .ok (.if_icmp .ne 7, 3) := by decide +kernel
theorem dX6_isLane_24 : decode cX6_isLane 24 = .ok (.iconst 1, 1) := by decide +kernel
theorem dX6_isLane_25 : decode cX6_isLane 25 = .ok (.goto 4, 3) := by decide +kernel
theorem dX6_isLane_28 : decode cX6_isLane 28 = .ok (.iconst 0, 1) := by decide +kernel
theorem dX6_isLane_29 : decode cX6_isLane 29 = .ok (.ireturn, 1) := by decide +kernel
theorem dX6_of_0 : decode cX6_of 0 = .ok (.aload_n 0, 1) := by decide +kernel
theorem dX6_of_1 : decode cX6_of 1 = .ok (.getfield 7, 3) := by decide +kernel
theorem dX6_of_4 : decode cX6_of 4 = .ok (.bipush 22, 2) := by decide +kernel
theorem dX6_of_6 : decode cX6_of 6 = .ok (.iload_n 1, 1) := by decide +kernel
theorem dX6_of_7 : decode cX6_of 7 = .ok (.imul, 1) := by decide +kernel
theorem dX6_of_8 : decode cX6_of 8 = .ok (.iload_n 2, 1) := by decide +kernel
theorem dX6_of_9 : decode cX6_of 9 = .ok (.iadd, 1) := by decide +kernel
theorem dX6_of_10 : decode cX6_of 10 = .ok (.iaload, 1) := by decide +kernel
theorem dX6_of_11 : decode cX6_of 11 = .ok (.ireturn, 1) := by decide +kernel
theorem dX6_set_0 : decode cX6_set 0 = .ok (.aload_n 0, 1) := by decide +kernel
theorem dX6_set_1 : decode cX6_set 1 = .ok (.getfield 7, 3) := by decide +kernel
theorem dX6_set_4 : decode cX6_set 4 = .ok (.bipush 22, 2) := by decide +kernel
theorem dX6_set_6 : decode cX6_set 6 = .ok (.iload_n 1, 1) := by decide +kernel
theorem dX6_set_7 : decode cX6_set 7 = .ok (.imul, 1) := by decide +kernel
theorem dX6_set_8 : decode cX6_set 8 = .ok (.iload_n 2, 1) := by decide +kernel
theorem dX6_set_9 : decode cX6_set 9 = .ok (.iadd, 1) := by decide +kernel
theorem dX6_set_10 : decode cX6_set 10 = .ok (.iload_n 3, 1) := by decide +kernel
theorem dX6_set_11 : decode cX6_set 11 = .ok (.iastore, 1) := by decide +kernel
theorem dX6_set_12 : decode cX6_set 12 = .ok (.return_, 1) := by decide +kernel
theorem dX6_more_0 : decode cX6_more 0 = .ok (.aload_n 0, 1) := by decide +kernel
theorem dX6_more_1 : decode cX6_more 1 = .ok (.getfield 7, 3) := by decide +kernel
theorem dX6_more_4 : decode cX6_more 4 = .ok (.bipush 22, 2) := by decide +kernel
theorem dX6_more_6 : decode cX6_more 6 = .ok (.iload_n 1, 1) := by decide +kernel
theorem dX6_more_7 : decode cX6_more 7 = .ok (.imul, 1) := by decide +kernel
theorem dX6_more_8 : decode cX6_more 8 = .ok (.iload_n 2, 1) := by decide +kernel
theorem dX6_more_9 : decode cX6_more 9 = .ok (.iadd, 1) := by decide +kernel
theorem dX6_more_10 : decode cX6_more 10 = .ok (.dup2, 1) := by decide +kernel
theorem dX6_more_11 : decode cX6_more 11 = .ok (.iaload, 1) := by decide +kernel
theorem dX6_more_12 : decode cX6_more 12 = .ok (.iload_n 3, 1) := by decide +kernel
theorem dX6_more_13 : decode cX6_more 13 = .ok (.iadd, 1) := by decide +kernel
theorem dX6_more_14 : decode cX6_more 14 = .ok (.iastore, 1) := by decide +kernel
theorem dX6_more_15 : decode cX6_more 15 = .ok (.return_, 1) := by decide +kernel
theorem dX6_heldOf_0 : decode cX6_heldOf 0 = .ok (.aload_n 0, 1) := by decide +kernel
theorem dX6_heldOf_1 : decode cX6_heldOf 1 = .ok (.iload_n 1, 1) := by decide +kernel
theorem dX6_heldOf_2 : decode cX6_heldOf 2 = .ok (.iconst 5, 1) := by decide +kernel
theorem dX6_heldOf_3 : decode cX6_heldOf 3 = .ok (.invokevirtual 80, 3) := by decide +kernel
theorem dX6_heldOf_6 : decode cX6_heldOf 6 = .ok (.ireturn, 1) := by decide +kernel
theorem dX6_isUsed_0 : decode cX6_isUsed 0 = .ok (.iconst 0, 1) := by decide +kernel
theorem dX6_isUsed_1 : decode cX6_isUsed 1 = .ok (.istore_n 2, 1) := by decide +kernel
theorem dX6_isUsed_2 : decode cX6_isUsed 2 = .ok (.iload_n 2, 1) := by decide +kernel
theorem dX6_isUsed_3 : decode cX6_isUsed 3 = .ok (.bipush 7, 2) := by decide +kernel
theorem dX6_isUsed_5 : decode cX6_isUsed 5 = .ok (.if_icmp .ge 31, 3) := by decide +kernel
theorem dX6_isUsed_8 : decode cX6_isUsed 8 = .ok (.aload_n 0, 1) := by decide +kernel
theorem dX6_isUsed_9 : decode cX6_isUsed 9 = .ok (.iload_n 2, 1) := by decide +kernel
theorem dX6_isUsed_10 : decode cX6_isUsed 10 = .ok (.iconst 0, 1) := by decide +kernel
theorem dX6_isUsed_11 : decode cX6_isUsed 11 = .ok (.invokevirtual 80, 3) := by decide +kernel
theorem dX6_isUsed_14 : decode cX6_isUsed 14 = .ok (.iconst 1, 1) := by decide +kernel
theorem dX6_isUsed_15 : decode cX6_isUsed 15 = .ok (.if_icmp .ne 15, 3) := by decide +kernel
theorem dX6_isUsed_18 : decode cX6_isUsed 18 = .ok (.aload_n 0, 1) := by decide +kernel
theorem dX6_isUsed_19 : decode cX6_isUsed 19 = .ok (.iload_n 2, 1) := by decide +kernel
theorem dX6_isUsed_20 : decode cX6_isUsed 20 = .ok (.iconst 1, 1) := by decide +kernel
theorem dX6_isUsed_21 : decode cX6_isUsed 21 = .ok (.invokevirtual 80, 3) := by decide +kernel
theorem dX6_isUsed_24 : decode cX6_isUsed 24 = .ok (.iload_n 1, 1) := by decide +kernel
theorem dX6_isUsed_25 : decode cX6_isUsed 25 = .ok (.if_icmp .ne 5, 3) := by decide +kernel
theorem dX6_isUsed_28 : decode cX6_isUsed 28 = .ok (.iconst 1, 1) := by decide +kernel
theorem dX6_isUsed_29 : decode cX6_isUsed 29 = .ok (.ireturn, 1) := by decide +kernel
theorem dX6_isUsed_30 : decode cX6_isUsed 30 = .ok (.iinc 2 1, 3) := by decide +kernel
theorem dX6_isUsed_33 : decode cX6_isUsed 33 = .ok (.goto (-31), 3) := by decide +kernel
theorem dX6_isUsed_36 : decode cX6_isUsed 36 = .ok (.iconst 0, 1) := by decide +kernel
theorem dX6_isUsed_37 : decode cX6_isUsed 37 = .ok (.ireturn, 1) := by decide +kernel
theorem dX6_table_0 : decode cX6_table 0 = .ok (.iload_n 1, 1) := by decide +kernel
theorem dX6_table_1 : decode cX6_table 1 = .ok (.iconst 0, 1) := by decide +kernel
theorem dX6_table_2 : decode cX6_table 2 = .ok (.bipush 15, 2) := by decide +kernel
theorem dX6_table_4 : decode cX6_table 4 = .ok (.invokestatic 76, 3) := by decide +kernel
theorem dX6_table_7 : decode cX6_table 7 = .ok (.ifCond .eq 21, 3) := by decide +kernel
theorem dX6_table_10 : decode cX6_table 10 = .ok (.iload_n 2, 1) := by decide +kernel
theorem dX6_table_11 : decode cX6_table 11 = .ok (.iconst 0, 1) := by decide +kernel
theorem dX6_table_12 : decode cX6_table 12 = .ok (.iconst 3, 1) := by decide +kernel
theorem dX6_table_13 : decode cX6_table 13 = .ok (.invokestatic 76, 3) := by decide +kernel
theorem dX6_table_16 : decode cX6_table 16 = .ok (.ifCond .eq 12, 3) := by decide +kernel
theorem dX6_table_19 : decode cX6_table 19 = .ok (.aload_n 0, 1) := by decide +kernel
theorem dX6_table_20 : decode cX6_table 20 = .ok (.bipush 9, 2) := by decide +kernel
theorem dX6_table_22 : decode cX6_table 22 = .ok (.invokevirtual 84, 3) := by decide +kernel
theorem dX6_table_25 : decode cX6_table 25 = .ok (.ifCond .eq 5, 3) := by decide +kernel
theorem dX6_table_28 : decode cX6_table 28 = .ok (.iconst 0, 1) := by decide +kernel
theorem dX6_table_29 : decode cX6_table 29 = .ok (.ireturn, 1) := by decide +kernel
theorem dX6_table_30 : decode cX6_table 30 = .ok (.aload_n 0, 1) := by decide +kernel
theorem dX6_table_31 : decode cX6_table 31 = .ok (.getfield 22, 3) := by decide +kernel
theorem dX6_table_34 : decode cX6_table 34 = .ok (.iload_n 1, 1) := by decide +kernel
theorem dX6_table_35 : decode cX6_table 35 = .ok (.iload_n 2, 1) := by decide +kernel
theorem dX6_table_36 : decode cX6_table 36 = .ok (.iastore, 1) := by decide +kernel
theorem dX6_table_37 : decode cX6_table 37 = .ok (.iconst 1, 1) := by decide +kernel
theorem dX6_table_38 : decode cX6_table 38 = .ok (.ireturn, 1) := by decide +kernel
theorem dX6_letter_0 : decode cX6_letter 0 = .ok (.iload_n 1, 1) := by decide +kernel
theorem dX6_letter_1 : decode cX6_letter 1 = .ok (.iconst 0, 1) := by decide +kernel
theorem dX6_letter_2 : decode cX6_letter 2 = .ok (.bipush 7, 2) := by decide +kernel
theorem dX6_letter_4 : decode cX6_letter 4 = .ok (.invokestatic 76, 3) := by decide +kernel
theorem dX6_letter_7 : decode cX6_letter 7 = .ok (.ifCond .eq 22, 3) := by decide +kernel
theorem dX6_letter_10 : decode cX6_letter 10 = .ok (.iload_n 2, 1) := by decide +kernel
theorem dX6_letter_11 : decode cX6_letter 11 = .ok (.iconst 0, 1) := by decide +kernel
theorem dX6_letter_12 : decode cX6_letter 12 = .ok (.sipush 255, 3) := by decide +kernel
theorem dX6_letter_15 : decode cX6_letter 15 = .ok (.invokestatic 76, 3) := by decide +kernel
theorem dX6_letter_18 : decode cX6_letter 18 = .ok (.ifCond .eq 11, 3) := by decide +kernel
theorem dX6_letter_21 : decode cX6_letter 21 = .ok (.aload_n 0, 1) := by decide +kernel
theorem dX6_letter_22 : decode cX6_letter 22 = .ok (.iconst 4, 1) := by decide +kernel
theorem dX6_letter_23 : decode cX6_letter 23 = .ok (.invokevirtual 84, 3) := by decide +kernel
theorem dX6_letter_26 : decode cX6_letter 26 = .ok (.ifCond .eq 5, 3) := by decide +kernel
theorem dX6_letter_29 : decode cX6_letter 29 = .ok (.iconst 0, 1) := by decide +kernel
theorem dX6_letter_30 : decode cX6_letter 30 = .ok (.ireturn, 1) := by decide +kernel
theorem dX6_letter_31 : decode cX6_letter 31 = .ok (.aload_n 0, 1) := by decide +kernel
theorem dX6_letter_32 : decode cX6_letter 32 = .ok (.getfield 25, 3) := by decide +kernel
theorem dX6_letter_35 : decode cX6_letter 35 = .ok (.iload_n 1, 1) := by decide +kernel
theorem dX6_letter_36 : decode cX6_letter 36 = .ok (.iload_n 2, 1) := by decide +kernel
theorem dX6_letter_37 : decode cX6_letter 37 = .ok (.iastore, 1) := by decide +kernel
theorem dX6_letter_38 : decode cX6_letter 38 = .ok (.iconst 1, 1) := by decide +kernel
theorem dX6_letter_39 : decode cX6_letter 39 = .ok (.ireturn, 1) := by decide +kernel
theorem dX6_product_0 : decode cX6_product 0 = .ok (.aload_n 0, 1) := by decide +kernel
theorem dX6_product_1 : decode cX6_product 1 = .ok (.getfield 22, 3) := by decide +kernel
theorem dX6_product_4 : decode cX6_product 4 = .ok (.iconst 4, 1) := by decide +kernel
theorem dX6_product_5 : decode cX6_product 5 = .ok (.iload_n 1, 1) := by decide +kernel
theorem dX6_product_6 : decode cX6_product 6 = .ok (.imul, 1) := by decide +kernel
theorem dX6_product_7 : decode cX6_product 7 = .ok (.iload_n 2, 1) := by decide +kernel
theorem dX6_product_8 : decode cX6_product 8 = .ok (.iadd, 1) := by decide +kernel
theorem dX6_product_9 : decode cX6_product 9 = .ok (.iaload, 1) := by decide +kernel
theorem dX6_product_10 : decode cX6_product 10 = .ok (.ireturn, 1) := by decide +kernel
theorem dX6_associates_0 : decode cX6_associates 0 = .ok (.iload_n 1, 1) := by decide +kernel
theorem dX6_associates_1 : decode cX6_associates 1 = .ok (.bipush 16, 2) := by decide +kernel
theorem dX6_associates_3 : decode cX6_associates 3 = .ok (.idiv, 1) := by decide +kernel
theorem dX6_associates_4 : decode cX6_associates 4 = .ok (.istore_n 2, 1) := by decide +kernel
theorem dX6_associates_5 : decode cX6_associates 5 = .ok (.iload_n 1, 1) := by decide +kernel
theorem dX6_associates_6 : decode cX6_associates 6 = .ok (.iconst 4, 1) := by decide +kernel
theorem dX6_associates_7 : decode cX6_associates 7 = .ok (.idiv, 1) := by decide +kernel
theorem dX6_associates_8 : decode cX6_associates 8 = .ok (.iconst 4, 1) := by decide +kernel
theorem dX6_associates_9 : decode cX6_associates 9 = .ok (.irem, 1) := by decide +kernel
theorem dX6_associates_10 : decode cX6_associates 10 = .ok (.istore_n 3, 1) := by decide +kernel
theorem dX6_associates_11 : decode cX6_associates 11 = .ok (.iload_n 1, 1) := by decide +kernel
theorem dX6_associates_12 : decode cX6_associates 12 = .ok (.iconst 4, 1) := by decide +kernel
theorem dX6_associates_13 : decode cX6_associates 13 = .ok (.irem, 1) := by decide +kernel
theorem dX6_associates_14 : decode cX6_associates 14 = .ok (.istore 4, 2) := by decide +kernel
theorem dX6_associates_16 : decode cX6_associates 16 = .ok (.aload_n 0, 1) := by decide +kernel
theorem dX6_associates_17 : decode cX6_associates 17 = .ok (.aload_n 0, 1) := by decide +kernel
theorem dX6_associates_18 : decode cX6_associates 18 = .ok (.iload_n 2, 1) := by decide +kernel
theorem dX6_associates_19 : decode cX6_associates 19 = .ok (.iload_n 3, 1) := by decide +kernel
theorem dX6_associates_20 : decode cX6_associates 20 = .ok (.invokevirtual 88, 3) := by decide +kernel
theorem dX6_associates_23 : decode cX6_associates 23 = .ok (.iload 4, 2) := by decide +kernel
theorem dX6_associates_25 : decode cX6_associates 25 = .ok (.invokevirtual 88, 3) := by decide +kernel
theorem dX6_associates_28 : decode cX6_associates 28 = .ok (.aload_n 0, 1) := by decide +kernel
theorem dX6_associates_29 : decode cX6_associates 29 = .ok (.iload_n 2, 1) := by decide +kernel
theorem dX6_associates_30 : decode cX6_associates 30 = .ok (.aload_n 0, 1) := by decide +kernel
theorem dX6_associates_31 : decode cX6_associates 31 = .ok (.iload_n 3, 1) := by decide +kernel
theorem dX6_associates_32 : decode cX6_associates 32 = .ok (.iload 4, 2) := by decide +kernel
theorem dX6_associates_34 : decode cX6_associates 34 = .ok (.invokevirtual 88, 3) := by decide +kernel
theorem dX6_associates_37 : decode cX6_associates 37 = .ok (.invokevirtual 88, 3) := by decide +kernel
theorem dX6_associates_40 : decode cX6_associates 40 = .ok (.if_icmp .ne 7, 3) := by decide +kernel
theorem dX6_associates_43 : decode cX6_associates 43 = .ok (.iconst 1, 1) := by decide +kernel
theorem dX6_associates_44 : decode cX6_associates 44 = .ok (.goto 4, 3) := by decide +kernel
theorem dX6_associates_47 : decode cX6_associates 47 = .ok (.iconst 0, 1) := by decide +kernel
theorem dX6_associates_48 : decode cX6_associates 48 = .ok (.ireturn, 1) := by decide +kernel
theorem dX6_firstThree_0 : decode cX6_firstThree 0 = .ok (.iconst 0, 1) := by decide +kernel
theorem dX6_firstThree_1 : decode cX6_firstThree 1 = .ok (.istore_n 1, 1) := by decide +kernel
theorem dX6_firstThree_2 : decode cX6_firstThree 2 = .ok (.iload_n 1, 1) := by decide +kernel
theorem dX6_firstThree_3 : decode cX6_firstThree 3 = .ok (.bipush 64, 2) := by decide +kernel
theorem dX6_firstThree_5 : decode cX6_firstThree 5 = .ok (.if_icmp .ge 19, 3) := by decide +kernel
theorem dX6_firstThree_8 : decode cX6_firstThree 8 = .ok (.aload_n 0, 1) := by decide +kernel
theorem dX6_firstThree_9 : decode cX6_firstThree 9 = .ok (.iload_n 1, 1) := by decide +kernel
theorem dX6_firstThree_10 : decode cX6_firstThree 10 = .ok (.invokevirtual 91, 3) := by decide +kernel
theorem dX6_firstThree_13 : decode cX6_firstThree 13 = .ok (.ifCond .ne 5, 3) := by decide +kernel
theorem dX6_firstThree_16 : decode cX6_firstThree 16 = .ok (.iload_n 1, 1) := by decide +kernel
theorem dX6_firstThree_17 : decode cX6_firstThree 17 = .ok (.ireturn, 1) := by decide +kernel
theorem dX6_firstThree_18 : decode cX6_firstThree 18 = .ok (.iinc 1 1, 3) := by decide +kernel
theorem dX6_firstThree_21 : decode cX6_firstThree 21 = .ok (.goto (-19), 3) := by decide +kernel
theorem dX6_firstThree_24 : decode cX6_firstThree 24 = .ok (.iconst (-1), 1) := by decide +kernel
theorem dX6_firstThree_25 : decode cX6_firstThree 25 = .ok (.ireturn, 1) := by decide +kernel
theorem dX6_triple_0 : decode cX6_triple 0 = .ok (.iload_n 1, 1) := by decide +kernel
theorem dX6_triple_1 : decode cX6_triple 1 = .ok (.iconst 3, 1) := by decide +kernel
theorem dX6_triple_2 : decode cX6_triple 2 = .ok (.if_icmp .ne 8, 3) := by decide +kernel
theorem dX6_triple_5 : decode cX6_triple 5 = .ok (.aload_n 0, 1) := by decide +kernel
theorem dX6_triple_6 : decode cX6_triple 6 = .ok (.invokevirtual 94, 3) := by decide +kernel
theorem dX6_triple_9 : decode cX6_triple 9 = .ok (.ireturn, 1) := by decide +kernel
theorem dX6_triple_10 : decode cX6_triple 10 = .ok (.aload_n 0, 1) := by decide +kernel
theorem dX6_triple_11 : decode cX6_triple 11 = .ok (.invokevirtual 98, 3) := by decide +kernel
theorem dX6_triple_14 : decode cX6_triple 14 = .ok (.istore_n 2, 1) := by decide +kernel
theorem dX6_triple_15 : decode cX6_triple 15 = .ok (.iload_n 2, 1) := by decide +kernel
theorem dX6_triple_16 : decode cX6_triple 16 = .ok (.ifCond .lt 12, 3) := by decide +kernel
theorem dX6_triple_19 : decode cX6_triple 19 = .ok (.iload_n 1, 1) := by decide +kernel
theorem dX6_triple_20 : decode cX6_triple 20 = .ok (.iconst 0, 1) := by decide +kernel
theorem dX6_triple_21 : decode cX6_triple 21 = .ok (.iconst 2, 1) := by decide +kernel
theorem dX6_triple_22 : decode cX6_triple 22 = .ok (.invokestatic 76, 3) := by decide +kernel
theorem dX6_triple_25 : decode cX6_triple 25 = .ok (.ifCond .ne 5, 3) := by decide +kernel
theorem dX6_triple_28 : decode cX6_triple 28 = .ok (.iconst (-1), 1) := by decide +kernel
theorem dX6_triple_29 : decode cX6_triple 29 = .ok (.ireturn, 1) := by decide +kernel
theorem dX6_triple_30 : decode cX6_triple 30 = .ok (.iload_n 1, 1) := by decide +kernel
theorem dX6_triple_31 : decode cX6_triple 31 = .ok (.ifCond .ne 10, 3) := by decide +kernel
theorem dX6_triple_34 : decode cX6_triple 34 = .ok (.iload_n 2, 1) := by decide +kernel
theorem dX6_triple_35 : decode cX6_triple 35 = .ok (.bipush 16, 2) := by decide +kernel
theorem dX6_triple_37 : decode cX6_triple 37 = .ok (.idiv, 1) := by decide +kernel
theorem dX6_triple_38 : decode cX6_triple 38 = .ok (.goto 19, 3) := by decide +kernel
theorem dX6_triple_41 : decode cX6_triple 41 = .ok (.iload_n 1, 1) := by decide +kernel
theorem dX6_triple_42 : decode cX6_triple 42 = .ok (.iconst 1, 1) := by decide +kernel
theorem dX6_triple_43 : decode cX6_triple 43 = .ok (.if_icmp .ne 11, 3) := by decide +kernel
theorem dX6_triple_46 : decode cX6_triple 46 = .ok (.iload_n 2, 1) := by decide +kernel
theorem dX6_triple_47 : decode cX6_triple 47 = .ok (.iconst 4, 1) := by decide +kernel
theorem dX6_triple_48 : decode cX6_triple 48 = .ok (.idiv, 1) := by decide +kernel
theorem dX6_triple_49 : decode cX6_triple 49 = .ok (.iconst 4, 1) := by decide +kernel
theorem dX6_triple_50 : decode cX6_triple 50 = .ok (.irem, 1) := by decide +kernel
theorem dX6_triple_51 : decode cX6_triple 51 = .ok (.goto 6, 3) := by decide +kernel
theorem dX6_triple_54 : decode cX6_triple 54 = .ok (.iload_n 2, 1) := by decide +kernel
theorem dX6_triple_55 : decode cX6_triple 55 = .ok (.iconst 4, 1) := by decide +kernel
theorem dX6_triple_56 : decode cX6_triple 56 = .ok (.irem, 1) := by decide +kernel
theorem dX6_triple_57 : decode cX6_triple 57 = .ok (.ireturn, 1) := by decide +kernel
theorem dX6_countAssociating_0 : decode cX6_countAssociating 0 = .ok (.iconst 0, 1) := by decide +kernel
theorem dX6_countAssociating_1 : decode cX6_countAssociating 1 = .ok (.istore_n 1, 1) := by decide +kernel
theorem dX6_countAssociating_2 : decode cX6_countAssociating 2 = .ok (.iconst 0, 1) := by decide +kernel
theorem dX6_countAssociating_3 : decode cX6_countAssociating 3 = .ok (.istore_n 2, 1) := by decide +kernel
theorem dX6_countAssociating_4 : decode cX6_countAssociating 4 = .ok (.iload_n 2, 1) := by decide +kernel
theorem dX6_countAssociating_5 : decode cX6_countAssociating 5 = .ok (.bipush 64, 2) := by decide +kernel
theorem dX6_countAssociating_7 : decode cX6_countAssociating 7 = .ok (.if_icmp .ge 25, 3) := by decide +kernel
theorem dX6_countAssociating_10 : decode cX6_countAssociating 10 = .ok (.iload_n 1, 1) := by decide +kernel
theorem dX6_countAssociating_11 : decode cX6_countAssociating 11 = .ok (.aload_n 0, 1) := by decide +kernel
theorem dX6_countAssociating_12 : decode cX6_countAssociating 12 = .ok (.iload_n 2, 1) := by decide +kernel
theorem dX6_countAssociating_13 : decode cX6_countAssociating 13 = .ok (.invokevirtual 91, 3) := by decide +kernel
theorem dX6_countAssociating_16 : decode cX6_countAssociating 16 = .ok (.ifCond .eq 7, 3) := by decide +kernel
theorem dX6_countAssociating_19 : decode cX6_countAssociating 19 = .ok (.iconst 1, 1) := by decide +kernel
theorem dX6_countAssociating_20 : decode cX6_countAssociating 20 = .ok (.goto 4, 3) := by decide +kernel
theorem dX6_countAssociating_23 : decode cX6_countAssociating 23 = .ok (.iconst 0, 1) := by decide +kernel
theorem dX6_countAssociating_24 : decode cX6_countAssociating 24 = .ok (.iadd, 1) := by decide +kernel
theorem dX6_countAssociating_25 : decode cX6_countAssociating 25 = .ok (.istore_n 1, 1) := by decide +kernel
theorem dX6_countAssociating_26 : decode cX6_countAssociating 26 = .ok (.iinc 2 1, 3) := by decide +kernel
theorem dX6_countAssociating_29 : decode cX6_countAssociating 29 = .ok (.goto (-25), 3) := by decide +kernel
theorem dX6_countAssociating_32 : decode cX6_countAssociating 32 = .ok (.iload_n 1, 1) := by decide +kernel
theorem dX6_countAssociating_33 : decode cX6_countAssociating 33 = .ok (.ireturn, 1) := by decide +kernel
theorem dX6_isSuch_0 : decode cX6_isSuch 0 = .ok (.iconst 0, 1) := by decide +kernel
theorem dX6_isSuch_1 : decode cX6_isSuch 1 = .ok (.istore_n 3, 1) := by decide +kernel
theorem dX6_isSuch_2 : decode cX6_isSuch 2 = .ok (.iload_n 3, 1) := by decide +kernel
theorem dX6_isSuch_3 : decode cX6_isSuch 3 = .ok (.iconst 4, 1) := by decide +kernel
theorem dX6_isSuch_4 : decode cX6_isSuch 4 = .ok (.if_icmp .ge 44, 3) := by decide +kernel
theorem dX6_isSuch_7 : decode cX6_isSuch 7 = .ok (.iload_n 2, 1) := by decide +kernel
theorem dX6_isSuch_8 : decode cX6_isSuch 8 = .ok (.ifCond .ne 7, 3) := by decide +kernel
theorem dX6_isSuch_11 : decode cX6_isSuch 11 = .ok (.iload_n 3, 1) := by decide +kernel
theorem dX6_isSuch_12 : decode cX6_isSuch 12 = .ok (.goto 4, 3) := by decide +kernel
theorem dX6_isSuch_15 : decode cX6_isSuch 15 = .ok (.iload_n 1, 1) := by decide +kernel
theorem dX6_isSuch_16 : decode cX6_isSuch 16 = .ok (.istore 4, 2) := by decide +kernel
theorem dX6_isSuch_18 : decode cX6_isSuch 18 = .ok (.aload_n 0, 1) := by decide +kernel
theorem dX6_isSuch_19 : decode cX6_isSuch 19 = .ok (.iload_n 1, 1) := by decide +kernel
theorem dX6_isSuch_20 : decode cX6_isSuch 20 = .ok (.iload_n 3, 1) := by decide +kernel
theorem dX6_isSuch_21 : decode cX6_isSuch 21 = .ok (.invokevirtual 88, 3) := by decide +kernel
theorem dX6_isSuch_24 : decode cX6_isSuch 24 = .ok (.iload 4, 2) := by decide +kernel
theorem dX6_isSuch_26 : decode cX6_isSuch 26 = .ok (.if_icmp .ne 14, 3) := by decide +kernel
theorem dX6_isSuch_29 : decode cX6_isSuch 29 = .ok (.aload_n 0, 1) := by decide +kernel
theorem dX6_isSuch_30 : decode cX6_isSuch 30 = .ok (.iload_n 3, 1) := by decide +kernel
theorem dX6_isSuch_31 : decode cX6_isSuch 31 = .ok (.iload_n 1, 1) := by decide +kernel
theorem dX6_isSuch_32 : decode cX6_isSuch 32 = .ok (.invokevirtual 88, 3) := by decide +kernel
theorem dX6_isSuch_35 : decode cX6_isSuch 35 = .ok (.iload 4, 2) := by decide +kernel
theorem dX6_isSuch_37 : decode cX6_isSuch 37 = .ok (.if_icmp .eq 5, 3) := by decide +kernel
theorem dX6_isSuch_40 : decode cX6_isSuch 40 = .ok (.iconst 0, 1) := by decide +kernel
theorem dX6_isSuch_41 : decode cX6_isSuch 41 = .ok (.ireturn, 1) := by decide +kernel
theorem dX6_isSuch_42 : decode cX6_isSuch 42 = .ok (.iinc 3 1, 3) := by decide +kernel
theorem dX6_isSuch_45 : decode cX6_isSuch 45 = .ok (.goto (-43), 3) := by decide +kernel
theorem dX6_isSuch_48 : decode cX6_isSuch 48 = .ok (.iconst 1, 1) := by decide +kernel
theorem dX6_isSuch_49 : decode cX6_isSuch 49 = .ok (.ireturn, 1) := by decide +kernel
theorem dX6_element_0 : decode cX6_element 0 = .ok (.iload_n 1, 1) := by decide +kernel
theorem dX6_element_1 : decode cX6_element 1 = .ok (.iconst 0, 1) := by decide +kernel
theorem dX6_element_2 : decode cX6_element 2 = .ok (.iconst 1, 1) := by decide +kernel
theorem dX6_element_3 : decode cX6_element 3 = .ok (.invokestatic 76, 3) := by decide +kernel
theorem dX6_element_6 : decode cX6_element 6 = .ok (.ifCond .eq 29, 3) := by decide +kernel
theorem dX6_element_9 : decode cX6_element 9 = .ok (.iconst 0, 1) := by decide +kernel
theorem dX6_element_10 : decode cX6_element 10 = .ok (.istore_n 2, 1) := by decide +kernel
theorem dX6_element_11 : decode cX6_element 11 = .ok (.iload_n 2, 1) := by decide +kernel
theorem dX6_element_12 : decode cX6_element 12 = .ok (.iconst 4, 1) := by decide +kernel
theorem dX6_element_13 : decode cX6_element 13 = .ok (.if_icmp .ge 20, 3) := by decide +kernel
theorem dX6_element_16 : decode cX6_element 16 = .ok (.aload_n 0, 1) := by decide +kernel
theorem dX6_element_17 : decode cX6_element 17 = .ok (.iload_n 2, 1) := by decide +kernel
theorem dX6_element_18 : decode cX6_element 18 = .ok (.iload_n 1, 1) := by decide +kernel
theorem dX6_element_19 : decode cX6_element 19 = .ok (.invokevirtual 101, 3) := by decide +kernel
theorem dX6_element_22 : decode cX6_element 22 = .ok (.ifCond .eq 5, 3) := by decide +kernel
theorem dX6_element_25 : decode cX6_element 25 = .ok (.iload_n 2, 1) := by decide +kernel
theorem dX6_element_26 : decode cX6_element 26 = .ok (.ireturn, 1) := by decide +kernel
theorem dX6_element_27 : decode cX6_element 27 = .ok (.iinc 2 1, 3) := by decide +kernel
theorem dX6_element_30 : decode cX6_element 30 = .ok (.goto (-19), 3) := by decide +kernel
theorem dX6_element_33 : decode cX6_element 33 = .ok (.iconst (-1), 1) := by decide +kernel
theorem dX6_element_34 : decode cX6_element 34 = .ok (.ireturn, 1) := by decide +kernel
theorem dX6_element_35 : decode cX6_element 35 = .ok (.iconst 0, 1) := by decide +kernel
theorem dX6_element_36 : decode cX6_element 36 = .ok (.istore_n 2, 1) := by decide +kernel
theorem dX6_element_37 : decode cX6_element 37 = .ok (.iload_n 1, 1) := by decide +kernel
theorem dX6_element_38 : decode cX6_element 38 = .ok (.iconst 2, 1) := by decide +kernel
theorem dX6_element_39 : decode cX6_element 39 = .ok (.if_icmp .ne 36, 3) := by decide +kernel
theorem dX6_element_42 : decode cX6_element 42 = .ok (.iconst 0, 1) := by decide +kernel
theorem dX6_element_43 : decode cX6_element 43 = .ok (.istore_n 3, 1) := by decide +kernel
theorem dX6_element_44 : decode cX6_element 44 = .ok (.iload_n 3, 1) := by decide +kernel
theorem dX6_element_45 : decode cX6_element 45 = .ok (.iconst 4, 1) := by decide +kernel
theorem dX6_element_46 : decode cX6_element 46 = .ok (.if_icmp .ge 27, 3) := by decide +kernel
theorem dX6_element_49 : decode cX6_element 49 = .ok (.iload_n 2, 1) := by decide +kernel
theorem dX6_element_50 : decode cX6_element 50 = .ok (.aload_n 0, 1) := by decide +kernel
theorem dX6_element_51 : decode cX6_element 51 = .ok (.iload_n 3, 1) := by decide +kernel
theorem dX6_element_52 : decode cX6_element 52 = .ok (.iload_n 3, 1) := by decide +kernel
theorem dX6_element_53 : decode cX6_element 53 = .ok (.invokevirtual 88, 3) := by decide +kernel
theorem dX6_element_56 : decode cX6_element 56 = .ok (.iload_n 3, 1) := by decide +kernel
theorem dX6_element_57 : decode cX6_element 57 = .ok (.if_icmp .ne 7, 3) := by decide +kernel
theorem dX6_element_60 : decode cX6_element 60 = .ok (.iconst 1, 1) := by decide +kernel
theorem dX6_element_61 : decode cX6_element 61 = .ok (.goto 4, 3) := by decide +kernel
theorem dX6_element_64 : decode cX6_element 64 = .ok (.iconst 0, 1) := by decide +kernel
theorem dX6_element_65 : decode cX6_element 65 = .ok (.iadd, 1) := by decide +kernel
theorem dX6_element_66 : decode cX6_element 66 = .ok (.istore_n 2, 1) := by decide +kernel
theorem dX6_element_67 : decode cX6_element 67 = .ok (.iinc 3 1, 3) := by decide +kernel
theorem dX6_element_70 : decode cX6_element 70 = .ok (.goto (-26), 3) := by decide +kernel
theorem dX6_element_73 : decode cX6_element 73 = .ok (.iload_n 2, 1) := by decide +kernel
theorem dX6_element_74 : decode cX6_element 74 = .ok (.ireturn, 1) := by decide +kernel
theorem dX6_element_75 : decode cX6_element 75 = .ok (.iload_n 1, 1) := by decide +kernel
theorem dX6_element_76 : decode cX6_element 76 = .ok (.iconst 3, 1) := by decide +kernel
theorem dX6_element_77 : decode cX6_element 77 = .ok (.if_icmp .eq 5, 3) := by decide +kernel
theorem dX6_element_80 : decode cX6_element 80 = .ok (.iconst (-1), 1) := by decide +kernel
theorem dX6_element_81 : decode cX6_element 81 = .ok (.ireturn, 1) := by decide +kernel
theorem dX6_element_82 : decode cX6_element 82 = .ok (.iconst 0, 1) := by decide +kernel
theorem dX6_element_83 : decode cX6_element 83 = .ok (.istore_n 3, 1) := by decide +kernel
theorem dX6_element_84 : decode cX6_element 84 = .ok (.iload_n 3, 1) := by decide +kernel
theorem dX6_element_85 : decode cX6_element 85 = .ok (.bipush 16, 2) := by decide +kernel
theorem dX6_element_87 : decode cX6_element 87 = .ok (.if_icmp .ge 40, 3) := by decide +kernel
theorem dX6_element_90 : decode cX6_element 90 = .ok (.iload_n 2, 1) := by decide +kernel
theorem dX6_element_91 : decode cX6_element 91 = .ok (.aload_n 0, 1) := by decide +kernel
theorem dX6_element_92 : decode cX6_element 92 = .ok (.iload_n 3, 1) := by decide +kernel
theorem dX6_element_93 : decode cX6_element 93 = .ok (.iconst 4, 1) := by decide +kernel
theorem dX6_element_94 : decode cX6_element 94 = .ok (.idiv, 1) := by decide +kernel
theorem dX6_element_95 : decode cX6_element 95 = .ok (.iload_n 3, 1) := by decide +kernel
theorem dX6_element_96 : decode cX6_element 96 = .ok (.iconst 4, 1) := by decide +kernel
theorem dX6_element_97 : decode cX6_element 97 = .ok (.irem, 1) := by decide +kernel
theorem dX6_element_98 : decode cX6_element 98 = .ok (.invokevirtual 88, 3) := by decide +kernel
theorem dX6_element_101 : decode cX6_element 101 = .ok (.aload_n 0, 1) := by decide +kernel
theorem dX6_element_102 : decode cX6_element 102 = .ok (.iload_n 3, 1) := by decide +kernel
theorem dX6_element_103 : decode cX6_element 103 = .ok (.iconst 4, 1) := by decide +kernel
theorem dX6_element_104 : decode cX6_element 104 = .ok (.irem, 1) := by decide +kernel
theorem dX6_element_105 : decode cX6_element 105 = .ok (.iload_n 3, 1) := by decide +kernel
theorem dX6_element_106 : decode cX6_element 106 = .ok (.iconst 4, 1) := by decide +kernel
theorem dX6_element_107 : decode cX6_element 107 = .ok (.idiv, 1) := by decide +kernel
theorem dX6_element_108 : decode cX6_element 108 = .ok (.invokevirtual 88, 3) := by decide +kernel
theorem dX6_element_111 : decode cX6_element 111 = .ok (.if_icmp .ne 7, 3) := by decide +kernel
theorem dX6_element_114 : decode cX6_element 114 = .ok (.iconst 1, 1) := by decide +kernel
theorem dX6_element_115 : decode cX6_element 115 = .ok (.goto 4, 3) := by decide +kernel
theorem dX6_element_118 : decode cX6_element 118 = .ok (.iconst 0, 1) := by decide +kernel
theorem dX6_element_119 : decode cX6_element 119 = .ok (.iadd, 1) := by decide +kernel
theorem dX6_element_120 : decode cX6_element 120 = .ok (.istore_n 2, 1) := by decide +kernel
theorem dX6_element_121 : decode cX6_element 121 = .ok (.iinc 3 1, 3) := by decide +kernel
theorem dX6_element_124 : decode cX6_element 124 = .ok (.goto (-40), 3) := by decide +kernel
theorem dX6_element_127 : decode cX6_element 127 = .ok (.iload_n 2, 1) := by decide +kernel
theorem dX6_element_128 : decode cX6_element 128 = .ok (.ireturn, 1) := by decide +kernel
theorem dX6_clearRow_0 : decode cX6_clearRow 0 = .ok (.aload_n 0, 1) := by decide +kernel
theorem dX6_clearRow_1 : decode cX6_clearRow 1 = .ok (.iconst 0, 1) := by decide +kernel
theorem dX6_clearRow_2 : decode cX6_clearRow 2 = .ok (.putfield 105, 3) := by decide +kernel
theorem dX6_clearRow_5 : decode cX6_clearRow 5 = .ok (.return_, 1) := by decide +kernel
theorem dX6_put_0 : decode cX6_put 0 = .ok (.aload_n 0, 1) := by decide +kernel
theorem dX6_put_1 : decode cX6_put 1 = .ok (.getfield 28, 3) := by decide +kernel
theorem dX6_put_4 : decode cX6_put 4 = .ok (.aload_n 0, 1) := by decide +kernel
theorem dX6_put_5 : decode cX6_put 5 = .ok (.getfield 105, 3) := by decide +kernel
theorem dX6_put_8 : decode cX6_put 8 = .ok (.iload_n 1, 1) := by decide +kernel
theorem dX6_put_9 : decode cX6_put 9 = .ok (.iastore, 1) := by decide +kernel
theorem dX6_put_10 : decode cX6_put 10 = .ok (.aload_n 0, 1) := by decide +kernel
theorem dX6_put_11 : decode cX6_put 11 = .ok (.dup, 1) := by decide +kernel
theorem dX6_put_12 : decode cX6_put 12 = .ok (.getfield 105, 3) := by decide +kernel
theorem dX6_put_15 : decode cX6_put 15 = .ok (.iconst 1, 1) := by decide +kernel
theorem dX6_put_16 : decode cX6_put 16 = .ok (.iadd, 1) := by decide +kernel
theorem dX6_put_17 : decode cX6_put 17 = .ok (.putfield 105, 3) := by decide +kernel
theorem dX6_put_20 : decode cX6_put 20 = .ok (.return_, 1) := by decide +kernel
theorem dX6_putFrom_0 : decode cX6_putFrom 0 = .ok (.iload_n 2, 1) := by decide +kernel
theorem dX6_putFrom_1 : decode cX6_putFrom 1 = .ok (.istore 4, 2) := by decide +kernel
theorem dX6_putFrom_3 : decode cX6_putFrom 3 = .ok (.iload 4, 2) := by decide +kernel
theorem dX6_putFrom_5 : decode cX6_putFrom 5 = .ok (.iload_n 3, 1) := by decide +kernel
theorem dX6_putFrom_6 : decode cX6_putFrom 6 = .ok (.if_icmp .gt 25, 3) := by decide +kernel
theorem dX6_putFrom_9 : decode cX6_putFrom 9 = .ok (.aload_n 0, 1) := by decide +kernel
theorem dX6_putFrom_10 : decode cX6_putFrom 10 = .ok (.aload_n 0, 1) := by decide +kernel
theorem dX6_putFrom_11 : decode cX6_putFrom 11 = .ok (.getfield 16, 3) := by decide +kernel
theorem dX6_putFrom_14 : decode cX6_putFrom 14 = .ok (.bipush 121, 2) := by decide +kernel
theorem dX6_putFrom_16 : decode cX6_putFrom 16 = .ok (.iload_n 1, 1) := by decide +kernel
theorem dX6_putFrom_17 : decode cX6_putFrom 17 = .ok (.imul, 1) := by decide +kernel
theorem dX6_putFrom_18 : decode cX6_putFrom 18 = .ok (.iload 4, 2) := by decide +kernel
theorem dX6_putFrom_20 : decode cX6_putFrom 20 = .ok (.iadd, 1) := by decide +kernel
theorem dX6_putFrom_21 : decode cX6_putFrom 21 = .ok (.iaload, 1) := by decide +kernel
theorem dX6_putFrom_22 : decode cX6_putFrom 22 = .ok (.invokevirtual 109, 3) := by decide +kernel
theorem dX6_putFrom_25 : decode cX6_putFrom 25 = .ok (.iinc 4 1, 3) := by decide +kernel
theorem dX6_putFrom_28 : decode cX6_putFrom 28 = .ok (.goto (-25), 3) := by decide +kernel
theorem dX6_putFrom_31 : decode cX6_putFrom 31 = .ok (.return_, 1) := by decide +kernel
theorem dX6_layAll_0 : decode cX6_layAll 0 = .ok (.aload_n 0, 1) := by decide +kernel
theorem dX6_layAll_1 : decode cX6_layAll 1 = .ok (.invokevirtual 113, 3) := by decide +kernel
theorem dX6_layAll_4 : decode cX6_layAll 4 = .ok (.aload_n 0, 1) := by decide +kernel
theorem dX6_layAll_5 : decode cX6_layAll 5 = .ok (.iload_n 1, 1) := by decide +kernel
theorem dX6_layAll_6 : decode cX6_layAll 6 = .ok (.iconst 0, 1) := by decide +kernel
theorem dX6_layAll_7 : decode cX6_layAll 7 = .ok (.aload_n 0, 1) := by decide +kernel
theorem dX6_layAll_8 : decode cX6_layAll 8 = .ok (.iload_n 1, 1) := by decide +kernel
theorem dX6_layAll_9 : decode cX6_layAll 9 = .ok (.invokevirtual 116, 3) := by decide +kernel
theorem dX6_layAll_12 : decode cX6_layAll 12 = .ok (.iconst 1, 1) := by decide +kernel
theorem dX6_layAll_13 : decode cX6_layAll 13 = .ok (.isub, 1) := by decide +kernel
theorem dX6_layAll_14 : decode cX6_layAll 14 = .ok (.invokevirtual 120, 3) := by decide +kernel
theorem dX6_layAll_17 : decode cX6_layAll 17 = .ok (.return_, 1) := by decide +kernel
theorem dX6_howMany_0 : decode cX6_howMany 0 = .ok (.iload_n 0, 1) := by decide +kernel
theorem dX6_howMany_1 : decode cX6_howMany 1 = .ok (.tableswitch 70 0 8 #[51, 53, 55, 57, 59, 61, 63, 66, 68], 51) := by decide +kernel
theorem dX6_howMany_52 : decode cX6_howMany 52 = .ok (.iconst 4, 1) := by decide +kernel
theorem dX6_howMany_53 : decode cX6_howMany 53 = .ok (.ireturn, 1) := by decide +kernel
theorem dX6_howMany_54 : decode cX6_howMany 54 = .ok (.iconst 2, 1) := by decide +kernel
theorem dX6_howMany_55 : decode cX6_howMany 55 = .ok (.ireturn, 1) := by decide +kernel
theorem dX6_howMany_56 : decode cX6_howMany 56 = .ok (.iconst 2, 1) := by decide +kernel
theorem dX6_howMany_57 : decode cX6_howMany 57 = .ok (.ireturn, 1) := by decide +kernel
theorem dX6_howMany_58 : decode cX6_howMany 58 = .ok (.iconst 4, 1) := by decide +kernel
theorem dX6_howMany_59 : decode cX6_howMany 59 = .ok (.ireturn, 1) := by decide +kernel
theorem dX6_howMany_60 : decode cX6_howMany 60 = .ok (.iconst 5, 1) := by decide +kernel
theorem dX6_howMany_61 : decode cX6_howMany 61 = .ok (.ireturn, 1) := by decide +kernel
theorem dX6_howMany_62 : decode cX6_howMany 62 = .ok (.iconst 4, 1) := by decide +kernel
theorem dX6_howMany_63 : decode cX6_howMany 63 = .ok (.ireturn, 1) := by decide +kernel
theorem dX6_howMany_64 : decode cX6_howMany 64 = .ok (.bipush 7, 2) := by decide +kernel
theorem dX6_howMany_66 : decode cX6_howMany 66 = .ok (.ireturn, 1) := by decide +kernel
theorem dX6_howMany_67 : decode cX6_howMany 67 = .ok (.iconst 5, 1) := by decide +kernel
theorem dX6_howMany_68 : decode cX6_howMany 68 = .ok (.ireturn, 1) := by decide +kernel
theorem dX6_howMany_69 : decode cX6_howMany 69 = .ok (.iconst 3, 1) := by decide +kernel
theorem dX6_howMany_70 : decode cX6_howMany 70 = .ok (.ireturn, 1) := by decide +kernel
theorem dX6_howMany_71 : decode cX6_howMany 71 = .ok (.iconst 1, 1) := by decide +kernel
theorem dX6_howMany_72 : decode cX6_howMany 72 = .ok (.ireturn, 1) := by decide +kernel
theorem dX6_isNumber_0 : decode cX6_isNumber 0 = .ok (.aload_n 0, 1) := by decide +kernel
theorem dX6_isNumber_1 : decode cX6_isNumber 1 = .ok (.iload_n 1, 1) := by decide +kernel
theorem dX6_isNumber_2 : decode cX6_isNumber 2 = .ok (.invokevirtual 124, 3) := by decide +kernel
theorem dX6_isNumber_5 : decode cX6_isNumber 5 = .ok (.ifCond .eq 26, 3) := by decide +kernel
theorem dX6_isNumber_8 : decode cX6_isNumber 8 = .ok (.iload_n 2, 1) := by decide +kernel
theorem dX6_isNumber_9 : decode cX6_isNumber 9 = .ok (.iconst 0, 1) := by decide +kernel
theorem dX6_isNumber_10 : decode cX6_isNumber 10 = .ok (.aload_n 0, 1) := by decide +kernel
theorem dX6_isNumber_11 : decode cX6_isNumber 11 = .ok (.iload_n 1, 1) := by decide +kernel
theorem dX6_isNumber_12 : decode cX6_isNumber 12 = .ok (.iconst 1, 1) := by decide +kernel
theorem dX6_isNumber_13 : decode cX6_isNumber 13 = .ok (.invokevirtual 80, 3) := by decide +kernel
theorem dX6_isNumber_16 : decode cX6_isNumber 16 = .ok (.invokestatic 127, 3) := by decide +kernel
theorem dX6_isNumber_19 : decode cX6_isNumber 19 = .ok (.iconst 1, 1) := by decide +kernel
theorem dX6_isNumber_20 : decode cX6_isNumber 20 = .ok (.isub, 1) := by decide +kernel
theorem dX6_isNumber_21 : decode cX6_isNumber 21 = .ok (.invokestatic 76, 3) := by decide +kernel
theorem dX6_isNumber_24 : decode cX6_isNumber 24 = .ok (.ifCond .eq 7, 3) := by decide +kernel
theorem dX6_isNumber_27 : decode cX6_isNumber 27 = .ok (.iconst 1, 1) := by decide +kernel
theorem dX6_isNumber_28 : decode cX6_isNumber 28 = .ok (.goto 4, 3) := by decide +kernel
theorem dX6_isNumber_31 : decode cX6_isNumber 31 = .ok (.iconst 0, 1) := by decide +kernel
theorem dX6_isNumber_32 : decode cX6_isNumber 32 = .ok (.ireturn, 1) := by decide +kernel
theorem dX6_goThrough_0 : decode cX6_goThrough 0 = .ok (.iload_n 1, 1) := by decide +kernel
theorem dX6_goThrough_1 : decode cX6_goThrough 1 = .ok (.tableswitch 114 0 8 #[51, 58, 65, 72, 79, 86, 93, 100, 107], 51) := by decide +kernel
theorem dX6_goThrough_52 : decode cX6_goThrough 52 = .ok (.aload_n 0, 1) := by decide +kernel
theorem dX6_goThrough_53 : decode cX6_goThrough 53 = .ok (.invokevirtual 130, 3) := by decide +kernel
theorem dX6_goThrough_56 : decode cX6_goThrough 56 = .ok (.goto 63, 3) := by decide +kernel
theorem dX6_goThrough_59 : decode cX6_goThrough 59 = .ok (.aload_n 0, 1) := by decide +kernel
theorem dX6_goThrough_60 : decode cX6_goThrough 60 = .ok (.invokevirtual 133, 3) := by decide +kernel
theorem dX6_goThrough_63 : decode cX6_goThrough 63 = .ok (.goto 56, 3) := by decide +kernel
theorem dX6_goThrough_66 : decode cX6_goThrough 66 = .ok (.aload_n 0, 1) := by decide +kernel
theorem dX6_goThrough_67 : decode cX6_goThrough 67 = .ok (.invokevirtual 136, 3) := by decide +kernel
theorem dX6_goThrough_70 : decode cX6_goThrough 70 = .ok (.goto 49, 3) := by decide +kernel
theorem dX6_goThrough_73 : decode cX6_goThrough 73 = .ok (.aload_n 0, 1) := by decide +kernel
theorem dX6_goThrough_74 : decode cX6_goThrough 74 = .ok (.invokevirtual 139, 3) := by decide +kernel
theorem dX6_goThrough_77 : decode cX6_goThrough 77 = .ok (.goto 42, 3) := by decide +kernel
theorem dX6_goThrough_80 : decode cX6_goThrough 80 = .ok (.aload_n 0, 1) := by decide +kernel
theorem dX6_goThrough_81 : decode cX6_goThrough 81 = .ok (.invokevirtual 142, 3) := by decide +kernel
theorem dX6_goThrough_84 : decode cX6_goThrough 84 = .ok (.goto 35, 3) := by decide +kernel
theorem dX6_goThrough_87 : decode cX6_goThrough 87 = .ok (.aload_n 0, 1) := by decide +kernel
theorem dX6_goThrough_88 : decode cX6_goThrough 88 = .ok (.invokevirtual 145, 3) := by decide +kernel
theorem dX6_goThrough_91 : decode cX6_goThrough 91 = .ok (.goto 28, 3) := by decide +kernel
theorem dX6_goThrough_94 : decode cX6_goThrough 94 = .ok (.aload_n 0, 1) := by decide +kernel
theorem dX6_goThrough_95 : decode cX6_goThrough 95 = .ok (.invokevirtual 148, 3) := by decide +kernel
theorem dX6_goThrough_98 : decode cX6_goThrough 98 = .ok (.goto 21, 3) := by decide +kernel
theorem dX6_goThrough_101 : decode cX6_goThrough 101 = .ok (.aload_n 0, 1) := by decide +kernel
theorem dX6_goThrough_102 : decode cX6_goThrough 102 = .ok (.invokevirtual 151, 3) := by decide +kernel
theorem dX6_goThrough_105 : decode cX6_goThrough 105 = .ok (.goto 14, 3) := by decide +kernel
theorem dX6_goThrough_108 : decode cX6_goThrough 108 = .ok (.aload_n 0, 1) := by decide +kernel
theorem dX6_goThrough_109 : decode cX6_goThrough 109 = .ok (.invokevirtual 154, 3) := by decide +kernel
theorem dX6_goThrough_112 : decode cX6_goThrough 112 = .ok (.goto 7, 3) := by decide +kernel
theorem dX6_goThrough_115 : decode cX6_goThrough 115 = .ok (.aload_n 0, 1) := by decide +kernel
theorem dX6_goThrough_116 : decode cX6_goThrough 116 = .ok (.invokevirtual 157, 3) := by decide +kernel
theorem dX6_goThrough_119 : decode cX6_goThrough 119 = .ok (.return_, 1) := by decide +kernel
theorem dX6_comes_0 : decode cX6_comes 0 = .ok (.aload_n 0, 1) := by decide +kernel
theorem dX6_comes_1 : decode cX6_comes 1 = .ok (.getfield 105, 3) := by decide +kernel
theorem dX6_comes_4 : decode cX6_comes 4 = .ok (.ifCond .ne 6, 3) := by decide +kernel
theorem dX6_comes_7 : decode cX6_comes 7 = .ok (.ldc 160, 2) := by decide +kernel
theorem dX6_comes_9 : decode cX6_comes 9 = .ok (.ireturn, 1) := by decide +kernel
theorem dX6_comes_10 : decode cX6_comes 10 = .ok (.aload_n 0, 1) := by decide +kernel
theorem dX6_comes_11 : decode cX6_comes 11 = .ok (.iload_n 1, 1) := by decide +kernel
theorem dX6_comes_12 : decode cX6_comes 12 = .ok (.invokevirtual 161, 3) := by decide +kernel
theorem dX6_comes_15 : decode cX6_comes 15 = .ok (.aload_n 0, 1) := by decide +kernel
theorem dX6_comes_16 : decode cX6_comes 16 = .ok (.getfield 31, 3) := by decide +kernel
theorem dX6_comes_19 : decode cX6_comes 19 = .ok (.iload_n 2, 1) := by decide +kernel
theorem dX6_comes_20 : decode cX6_comes 20 = .ok (.iaload, 1) := by decide +kernel
theorem dX6_comes_21 : decode cX6_comes 21 = .ok (.ireturn, 1) := by decide +kernel
theorem dX6_greatest_0 : decode cX6_greatest 0 = .ok (.iconst 0, 1) := by decide +kernel
theorem dX6_greatest_1 : decode cX6_greatest 1 = .ok (.istore_n 1, 1) := by decide +kernel
theorem dX6_greatest_2 : decode cX6_greatest 2 = .ok (.iconst 0, 1) := by decide +kernel
theorem dX6_greatest_3 : decode cX6_greatest 3 = .ok (.istore_n 2, 1) := by decide +kernel
theorem dX6_greatest_4 : decode cX6_greatest 4 = .ok (.iconst 0, 1) := by decide +kernel
theorem dX6_greatest_5 : decode cX6_greatest 5 = .ok (.istore_n 3, 1) := by decide +kernel
theorem dX6_greatest_6 : decode cX6_greatest 6 = .ok (.iload_n 3, 1) := by decide +kernel
theorem dX6_greatest_7 : decode cX6_greatest 7 = .ok (.aload_n 0, 1) := by decide +kernel
theorem dX6_greatest_8 : decode cX6_greatest 8 = .ok (.getfield 105, 3) := by decide +kernel
theorem dX6_greatest_11 : decode cX6_greatest 11 = .ok (.if_icmp .ge 26, 3) := by decide +kernel
theorem dX6_greatest_14 : decode cX6_greatest 14 = .ok (.aload_n 0, 1) := by decide +kernel
theorem dX6_greatest_15 : decode cX6_greatest 15 = .ok (.getfield 28, 3) := by decide +kernel
theorem dX6_greatest_18 : decode cX6_greatest 18 = .ok (.iload_n 3, 1) := by decide +kernel
theorem dX6_greatest_19 : decode cX6_greatest 19 = .ok (.iaload, 1) := by decide +kernel
theorem dX6_greatest_20 : decode cX6_greatest 20 = .ok (.aload_n 0, 1) := by decide +kernel
theorem dX6_greatest_21 : decode cX6_greatest 21 = .ok (.getfield 28, 3) := by decide +kernel
theorem dX6_greatest_24 : decode cX6_greatest 24 = .ok (.iload_n 1, 1) := by decide +kernel
theorem dX6_greatest_25 : decode cX6_greatest 25 = .ok (.iaload, 1) := by decide +kernel
theorem dX6_greatest_26 : decode cX6_greatest 26 = .ok (.if_icmp .le 5, 3) := by decide +kernel
theorem dX6_greatest_29 : decode cX6_greatest 29 = .ok (.iload_n 3, 1) := by decide +kernel
theorem dX6_greatest_30 : decode cX6_greatest 30 = .ok (.istore_n 1, 1) := by decide +kernel
theorem dX6_greatest_31 : decode cX6_greatest 31 = .ok (.iinc 3 1, 3) := by decide +kernel
theorem dX6_greatest_34 : decode cX6_greatest 34 = .ok (.goto (-28), 3) := by decide +kernel
theorem dX6_greatest_37 : decode cX6_greatest 37 = .ok (.iconst 0, 1) := by decide +kernel
theorem dX6_greatest_38 : decode cX6_greatest 38 = .ok (.istore_n 3, 1) := by decide +kernel
theorem dX6_greatest_39 : decode cX6_greatest 39 = .ok (.iload_n 3, 1) := by decide +kernel
theorem dX6_greatest_40 : decode cX6_greatest 40 = .ok (.aload_n 0, 1) := by decide +kernel
theorem dX6_greatest_41 : decode cX6_greatest 41 = .ok (.getfield 105, 3) := by decide +kernel
theorem dX6_greatest_44 : decode cX6_greatest 44 = .ok (.if_icmp .ge 32, 3) := by decide +kernel
theorem dX6_greatest_47 : decode cX6_greatest 47 = .ok (.iload_n 2, 1) := by decide +kernel
theorem dX6_greatest_48 : decode cX6_greatest 48 = .ok (.aload_n 0, 1) := by decide +kernel
theorem dX6_greatest_49 : decode cX6_greatest 49 = .ok (.getfield 28, 3) := by decide +kernel
theorem dX6_greatest_52 : decode cX6_greatest 52 = .ok (.iload_n 3, 1) := by decide +kernel
theorem dX6_greatest_53 : decode cX6_greatest 53 = .ok (.iaload, 1) := by decide +kernel
theorem dX6_greatest_54 : decode cX6_greatest 54 = .ok (.aload_n 0, 1) := by decide +kernel
theorem dX6_greatest_55 : decode cX6_greatest 55 = .ok (.getfield 28, 3) := by decide +kernel
theorem dX6_greatest_58 : decode cX6_greatest 58 = .ok (.iload_n 1, 1) := by decide +kernel
theorem dX6_greatest_59 : decode cX6_greatest 59 = .ok (.iaload, 1) := by decide +kernel
theorem dX6_greatest_60 : decode cX6_greatest 60 = .ok (.if_icmp .ne 7, 3) := by decide +kernel
theorem dX6_greatest_63 : decode cX6_greatest 63 = .ok (.iconst 1, 1) := by decide +kernel
theorem dX6_greatest_64 : decode cX6_greatest 64 = .ok (.goto 4, 3) := by decide +kernel
theorem dX6_greatest_67 : decode cX6_greatest 67 = .ok (.iconst 0, 1) := by decide +kernel
theorem dX6_greatest_68 : decode cX6_greatest 68 = .ok (.iadd, 1) := by decide +kernel
theorem dX6_greatest_69 : decode cX6_greatest 69 = .ok (.istore_n 2, 1) := by decide +kernel
theorem dX6_greatest_70 : decode cX6_greatest 70 = .ok (.iinc 3 1, 3) := by decide +kernel
theorem dX6_greatest_73 : decode cX6_greatest 73 = .ok (.goto (-34), 3) := by decide +kernel
theorem dX6_greatest_76 : decode cX6_greatest 76 = .ok (.aload_n 0, 1) := by decide +kernel
theorem dX6_greatest_77 : decode cX6_greatest 77 = .ok (.getfield 31, 3) := by decide +kernel
theorem dX6_greatest_80 : decode cX6_greatest 80 = .ok (.iconst 0, 1) := by decide +kernel
theorem dX6_greatest_81 : decode cX6_greatest 81 = .ok (.aload_n 0, 1) := by decide +kernel
theorem dX6_greatest_82 : decode cX6_greatest 82 = .ok (.getfield 28, 3) := by decide +kernel
theorem dX6_greatest_85 : decode cX6_greatest 85 = .ok (.iload_n 1, 1) := by decide +kernel
theorem dX6_greatest_86 : decode cX6_greatest 86 = .ok (.iaload, 1) := by decide +kernel
theorem dX6_greatest_87 : decode cX6_greatest 87 = .ok (.iastore, 1) := by decide +kernel
theorem dX6_greatest_88 : decode cX6_greatest 88 = .ok (.aload_n 0, 1) := by decide +kernel
theorem dX6_greatest_89 : decode cX6_greatest 89 = .ok (.getfield 31, 3) := by decide +kernel
theorem dX6_greatest_92 : decode cX6_greatest 92 = .ok (.iconst 1, 1) := by decide +kernel
theorem dX6_greatest_93 : decode cX6_greatest 93 = .ok (.iload_n 2, 1) := by decide +kernel
theorem dX6_greatest_94 : decode cX6_greatest 94 = .ok (.iastore, 1) := by decide +kernel
theorem dX6_greatest_95 : decode cX6_greatest 95 = .ok (.aload_n 0, 1) := by decide +kernel
theorem dX6_greatest_96 : decode cX6_greatest 96 = .ok (.getfield 31, 3) := by decide +kernel
theorem dX6_greatest_99 : decode cX6_greatest 99 = .ok (.iconst 2, 1) := by decide +kernel
theorem dX6_greatest_100 : decode cX6_greatest 100 = .ok (.iload_n 1, 1) := by decide +kernel
theorem dX6_greatest_101 : decode cX6_greatest 101 = .ok (.iastore, 1) := by decide +kernel
theorem dX6_greatest_102 : decode cX6_greatest 102 = .ok (.aload_n 0, 1) := by decide +kernel
theorem dX6_greatest_103 : decode cX6_greatest 103 = .ok (.getfield 31, 3) := by decide +kernel
theorem dX6_greatest_106 : decode cX6_greatest 106 = .ok (.iconst 3, 1) := by decide +kernel
theorem dX6_greatest_107 : decode cX6_greatest 107 = .ok (.aload_n 0, 1) := by decide +kernel
theorem dX6_greatest_108 : decode cX6_greatest 108 = .ok (.getfield 105, 3) := by decide +kernel
theorem dX6_greatest_111 : decode cX6_greatest 111 = .ok (.iastore, 1) := by decide +kernel
theorem dX6_greatest_112 : decode cX6_greatest 112 = .ok (.return_, 1) := by decide +kernel
theorem dX6_share_0 : decode cX6_share 0 = .ok (.iconst 0, 1) := by decide +kernel
theorem dX6_share_1 : decode cX6_share 1 = .ok (.istore_n 1, 1) := by decide +kernel
theorem dX6_share_2 : decode cX6_share 2 = .ok (.iconst 0, 1) := by decide +kernel
theorem dX6_share_3 : decode cX6_share 3 = .ok (.istore_n 2, 1) := by decide +kernel
theorem dX6_share_4 : decode cX6_share 4 = .ok (.iconst 0, 1) := by decide +kernel
theorem dX6_share_5 : decode cX6_share 5 = .ok (.istore_n 3, 1) := by decide +kernel
theorem dX6_share_6 : decode cX6_share 6 = .ok (.iload_n 3, 1) := by decide +kernel
theorem dX6_share_7 : decode cX6_share 7 = .ok (.aload_n 0, 1) := by decide +kernel
theorem dX6_share_8 : decode cX6_share 8 = .ok (.getfield 105, 3) := by decide +kernel
theorem dX6_share_11 : decode cX6_share 11 = .ok (.if_icmp .ge 70, 3) := by decide +kernel
theorem dX6_share_14 : decode cX6_share 14 = .ok (.aload_n 0, 1) := by decide +kernel
theorem dX6_share_15 : decode cX6_share 15 = .ok (.getfield 28, 3) := by decide +kernel
theorem dX6_share_18 : decode cX6_share 18 = .ok (.iload_n 3, 1) := by decide +kernel
theorem dX6_share_19 : decode cX6_share 19 = .ok (.iaload, 1) := by decide +kernel
theorem dX6_share_20 : decode cX6_share 20 = .ok (.ifCond .ge 13, 3) := by decide +kernel
theorem dX6_share_23 : decode cX6_share 23 = .ok (.aload_n 0, 1) := by decide +kernel
theorem dX6_share_24 : decode cX6_share 24 = .ok (.getfield 28, 3) := by decide +kernel
theorem dX6_share_27 : decode cX6_share 27 = .ok (.iload_n 3, 1) := by decide +kernel
theorem dX6_share_28 : decode cX6_share 28 = .ok (.iaload, 1) := by decide +kernel
theorem dX6_share_29 : decode cX6_share 29 = .ok (.ineg, 1) := by decide +kernel
theorem dX6_share_30 : decode cX6_share 30 = .ok (.goto 9, 3) := by decide +kernel
theorem dX6_share_33 : decode cX6_share 33 = .ok (.aload_n 0, 1) := by decide +kernel
theorem dX6_share_34 : decode cX6_share 34 = .ok (.getfield 28, 3) := by decide +kernel
theorem dX6_share_37 : decode cX6_share 37 = .ok (.iload_n 3, 1) := by decide +kernel
theorem dX6_share_38 : decode cX6_share 38 = .ok (.iaload, 1) := by decide +kernel
theorem dX6_share_39 : decode cX6_share 39 = .ok (.istore 4, 2) := by decide +kernel
theorem dX6_share_41 : decode cX6_share 41 = .ok (.iload_n 2, 1) := by decide +kernel
theorem dX6_share_42 : decode cX6_share 42 = .ok (.iload 4, 2) := by decide +kernel
theorem dX6_share_44 : decode cX6_share 44 = .ok (.ifCond .ne 7, 3) := by decide +kernel
theorem dX6_share_47 : decode cX6_share 47 = .ok (.iconst 0, 1) := by decide +kernel
theorem dX6_share_48 : decode cX6_share 48 = .ok (.goto 4, 3) := by decide +kernel
theorem dX6_share_51 : decode cX6_share 51 = .ok (.iconst 1, 1) := by decide +kernel
theorem dX6_share_52 : decode cX6_share 52 = .ok (.iadd, 1) := by decide +kernel
theorem dX6_share_53 : decode cX6_share 53 = .ok (.istore_n 2, 1) := by decide +kernel
theorem dX6_share_54 : decode cX6_share 54 = .ok (.iload 4, 2) := by decide +kernel
theorem dX6_share_56 : decode cX6_share 56 = .ok (.ifCond .le 19, 3) := by decide +kernel
theorem dX6_share_59 : decode cX6_share 59 = .ok (.iload_n 1, 1) := by decide +kernel
theorem dX6_share_60 : decode cX6_share 60 = .ok (.iload 4, 2) := by decide +kernel
theorem dX6_share_62 : decode cX6_share 62 = .ok (.irem, 1) := by decide +kernel
theorem dX6_share_63 : decode cX6_share 63 = .ok (.istore 5, 2) := by decide +kernel
theorem dX6_share_65 : decode cX6_share 65 = .ok (.iload 4, 2) := by decide +kernel
theorem dX6_share_67 : decode cX6_share 67 = .ok (.istore_n 1, 1) := by decide +kernel
theorem dX6_share_68 : decode cX6_share 68 = .ok (.iload 5, 2) := by decide +kernel
theorem dX6_share_70 : decode cX6_share 70 = .ok (.istore 4, 2) := by decide +kernel
theorem dX6_share_72 : decode cX6_share 72 = .ok (.goto (-18), 3) := by decide +kernel
theorem dX6_share_75 : decode cX6_share 75 = .ok (.iinc 3 1, 3) := by decide +kernel
theorem dX6_share_78 : decode cX6_share 78 = .ok (.goto (-72), 3) := by decide +kernel
theorem dX6_share_81 : decode cX6_share 81 = .ok (.aload_n 0, 1) := by decide +kernel
theorem dX6_share_82 : decode cX6_share 82 = .ok (.getfield 31, 3) := by decide +kernel
theorem dX6_share_85 : decode cX6_share 85 = .ok (.iconst 0, 1) := by decide +kernel
theorem dX6_share_86 : decode cX6_share 86 = .ok (.iload_n 1, 1) := by decide +kernel
theorem dX6_share_87 : decode cX6_share 87 = .ok (.iastore, 1) := by decide +kernel
theorem dX6_share_88 : decode cX6_share 88 = .ok (.aload_n 0, 1) := by decide +kernel
theorem dX6_share_89 : decode cX6_share 89 = .ok (.getfield 31, 3) := by decide +kernel
theorem dX6_share_92 : decode cX6_share 92 = .ok (.iconst 1, 1) := by decide +kernel
theorem dX6_share_93 : decode cX6_share 93 = .ok (.iload_n 2, 1) := by decide +kernel
theorem dX6_share_94 : decode cX6_share 94 = .ok (.iastore, 1) := by decide +kernel
theorem dX6_share_95 : decode cX6_share 95 = .ok (.return_, 1) := by decide +kernel
theorem dX6_rest_0 : decode cX6_rest 0 = .ok (.iload_n 0, 1) := by decide +kernel
theorem dX6_rest_1 : decode cX6_rest 1 = .ok (.iload_n 1, 1) := by decide +kernel
theorem dX6_rest_2 : decode cX6_rest 2 = .ok (.irem, 1) := by decide +kernel
theorem dX6_rest_3 : decode cX6_rest 3 = .ok (.istore_n 2, 1) := by decide +kernel
theorem dX6_rest_4 : decode cX6_rest 4 = .ok (.iload_n 2, 1) := by decide +kernel
theorem dX6_rest_5 : decode cX6_rest 5 = .ok (.ifCond .ge 9, 3) := by decide +kernel
theorem dX6_rest_8 : decode cX6_rest 8 = .ok (.iload_n 2, 1) := by decide +kernel
theorem dX6_rest_9 : decode cX6_rest 9 = .ok (.iload_n 1, 1) := by decide +kernel
theorem dX6_rest_10 : decode cX6_rest 10 = .ok (.iadd, 1) := by decide +kernel
theorem dX6_rest_11 : decode cX6_rest 11 = .ok (.goto 4, 3) := by decide +kernel
theorem dX6_rest_14 : decode cX6_rest 14 = .ok (.iload_n 2, 1) := by decide +kernel
theorem dX6_rest_15 : decode cX6_rest 15 = .ok (.ireturn, 1) := by decide +kernel
theorem dX6_line_0 : decode cX6_line 0 = .ok (.iconst 1, 1) := by decide +kernel
theorem dX6_line_1 : decode cX6_line 1 = .ok (.istore_n 1, 1) := by decide +kernel
theorem dX6_line_2 : decode cX6_line 2 = .ok (.iconst 0, 1) := by decide +kernel
theorem dX6_line_3 : decode cX6_line 3 = .ok (.istore_n 2, 1) := by decide +kernel
theorem dX6_line_4 : decode cX6_line 4 = .ok (.iconst 0, 1) := by decide +kernel
theorem dX6_line_5 : decode cX6_line 5 = .ok (.istore_n 3, 1) := by decide +kernel
theorem dX6_line_6 : decode cX6_line 6 = .ok (.iload_n 3, 1) := by decide +kernel
theorem dX6_line_7 : decode cX6_line 7 = .ok (.aload_n 0, 1) := by decide +kernel
theorem dX6_line_8 : decode cX6_line 8 = .ok (.getfield 105, 3) := by decide +kernel
theorem dX6_line_11 : decode cX6_line 11 = .ok (.if_icmp .ge 59, 3) := by decide +kernel
theorem dX6_line_14 : decode cX6_line 14 = .ok (.aload_n 0, 1) := by decide +kernel
theorem dX6_line_15 : decode cX6_line 15 = .ok (.getfield 28, 3) := by decide +kernel
theorem dX6_line_18 : decode cX6_line 18 = .ok (.iload_n 3, 1) := by decide +kernel
theorem dX6_line_19 : decode cX6_line 19 = .ok (.iaload, 1) := by decide +kernel
theorem dX6_line_20 : decode cX6_line 20 = .ok (.sipush 997, 3) := by decide +kernel
theorem dX6_line_23 : decode cX6_line 23 = .ok (.invokestatic 164, 3) := by decide +kernel
theorem dX6_line_26 : decode cX6_line 26 = .ok (.istore 4, 2) := by decide +kernel
theorem dX6_line_28 : decode cX6_line 28 = .ok (.iload 4, 2) := by decide +kernel
theorem dX6_line_30 : decode cX6_line 30 = .ok (.iload_n 1, 1) := by decide +kernel
theorem dX6_line_31 : decode cX6_line 31 = .ok (.imul, 1) := by decide +kernel
theorem dX6_line_32 : decode cX6_line 32 = .ok (.sipush 997, 3) := by decide +kernel
theorem dX6_line_35 : decode cX6_line 35 = .ok (.irem, 1) := by decide +kernel
theorem dX6_line_36 : decode cX6_line 36 = .ok (.istore_n 1, 1) := by decide +kernel
theorem dX6_line_37 : decode cX6_line 37 = .ok (.iload 4, 2) := by decide +kernel
theorem dX6_line_39 : decode cX6_line 39 = .ok (.iload_n 2, 1) := by decide +kernel
theorem dX6_line_40 : decode cX6_line 40 = .ok (.imul, 1) := by decide +kernel
theorem dX6_line_41 : decode cX6_line 41 = .ok (.bipush 7, 2) := by decide +kernel
theorem dX6_line_43 : decode cX6_line 43 = .ok (.aload_n 0, 1) := by decide +kernel
theorem dX6_line_44 : decode cX6_line 44 = .ok (.getfield 28, 3) := by decide +kernel
theorem dX6_line_47 : decode cX6_line 47 = .ok (.iload_n 3, 1) := by decide +kernel
theorem dX6_line_48 : decode cX6_line 48 = .ok (.iaload, 1) := by decide +kernel
theorem dX6_line_49 : decode cX6_line 49 = .ok (.imul, 1) := by decide +kernel
theorem dX6_line_50 : decode cX6_line 50 = .ok (.iconst 1, 1) := by decide +kernel
theorem dX6_line_51 : decode cX6_line 51 = .ok (.iadd, 1) := by decide +kernel
theorem dX6_line_52 : decode cX6_line 52 = .ok (.sipush 997, 3) := by decide +kernel
theorem dX6_line_55 : decode cX6_line 55 = .ok (.invokestatic 164, 3) := by decide +kernel
theorem dX6_line_58 : decode cX6_line 58 = .ok (.iadd, 1) := by decide +kernel
theorem dX6_line_59 : decode cX6_line 59 = .ok (.sipush 997, 3) := by decide +kernel
theorem dX6_line_62 : decode cX6_line 62 = .ok (.irem, 1) := by decide +kernel
theorem dX6_line_63 : decode cX6_line 63 = .ok (.istore_n 2, 1) := by decide +kernel
theorem dX6_line_64 : decode cX6_line 64 = .ok (.iinc 3 1, 3) := by decide +kernel
theorem dX6_line_67 : decode cX6_line 67 = .ok (.goto (-61), 3) := by decide +kernel
theorem dX6_line_70 : decode cX6_line 70 = .ok (.aload_n 0, 1) := by decide +kernel
theorem dX6_line_71 : decode cX6_line 71 = .ok (.getfield 31, 3) := by decide +kernel
theorem dX6_line_74 : decode cX6_line 74 = .ok (.iconst 0, 1) := by decide +kernel
theorem dX6_line_75 : decode cX6_line 75 = .ok (.iload_n 1, 1) := by decide +kernel
theorem dX6_line_76 : decode cX6_line 76 = .ok (.iastore, 1) := by decide +kernel
theorem dX6_line_77 : decode cX6_line 77 = .ok (.aload_n 0, 1) := by decide +kernel
theorem dX6_line_78 : decode cX6_line 78 = .ok (.getfield 31, 3) := by decide +kernel
theorem dX6_line_81 : decode cX6_line 81 = .ok (.iconst 1, 1) := by decide +kernel
theorem dX6_line_82 : decode cX6_line 82 = .ok (.iload_n 2, 1) := by decide +kernel
theorem dX6_line_83 : decode cX6_line 83 = .ok (.iastore, 1) := by decide +kernel
theorem dX6_line_84 : decode cX6_line 84 = .ok (.return_, 1) := by decide +kernel
theorem dX6_run_0 : decode cX6_run 0 = .ok (.iconst 0, 1) := by decide +kernel
theorem dX6_run_1 : decode cX6_run 1 = .ok (.istore_n 1, 1) := by decide +kernel
theorem dX6_run_2 : decode cX6_run 2 = .ok (.ldc 160, 2) := by decide +kernel
theorem dX6_run_4 : decode cX6_run 4 = .ok (.istore_n 2, 1) := by decide +kernel
theorem dX6_run_5 : decode cX6_run 5 = .ok (.ldc 160, 2) := by decide +kernel
theorem dX6_run_7 : decode cX6_run 7 = .ok (.istore_n 3, 1) := by decide +kernel
theorem dX6_run_8 : decode cX6_run 8 = .ok (.ldc 160, 2) := by decide +kernel
theorem dX6_run_10 : decode cX6_run 10 = .ok (.istore 4, 2) := by decide +kernel
theorem dX6_run_12 : decode cX6_run 12 = .ok (.iconst 0, 1) := by decide +kernel
theorem dX6_run_13 : decode cX6_run 13 = .ok (.istore 5, 2) := by decide +kernel
theorem dX6_run_15 : decode cX6_run 15 = .ok (.iload 5, 2) := by decide +kernel
theorem dX6_run_17 : decode cX6_run 17 = .ok (.aload_n 0, 1) := by decide +kernel
theorem dX6_run_18 : decode cX6_run 18 = .ok (.getfield 105, 3) := by decide +kernel
theorem dX6_run_21 : decode cX6_run 21 = .ok (.if_icmp .ge 80, 3) := by decide +kernel
theorem dX6_run_24 : decode cX6_run 24 = .ok (.iload_n 1, 1) := by decide +kernel
theorem dX6_run_25 : decode cX6_run 25 = .ok (.aload_n 0, 1) := by decide +kernel
theorem dX6_run_26 : decode cX6_run 26 = .ok (.getfield 28, 3) := by decide +kernel
theorem dX6_run_29 : decode cX6_run 29 = .ok (.iload 5, 2) := by decide +kernel
theorem dX6_run_31 : decode cX6_run 31 = .ok (.iaload, 1) := by decide +kernel
theorem dX6_run_32 : decode cX6_run 32 = .ok (.iadd, 1) := by decide +kernel
theorem dX6_run_33 : decode cX6_run 33 = .ok (.istore_n 1, 1) := by decide +kernel
theorem dX6_run_34 : decode cX6_run 34 = .ok (.iload_n 1, 1) := by decide +kernel
theorem dX6_run_35 : decode cX6_run 35 = .ok (.iload_n 3, 1) := by decide +kernel
theorem dX6_run_36 : decode cX6_run 36 = .ok (.if_icmp .le 5, 3) := by decide +kernel
theorem dX6_run_39 : decode cX6_run 39 = .ok (.iload_n 1, 1) := by decide +kernel
theorem dX6_run_40 : decode cX6_run 40 = .ok (.istore_n 3, 1) := by decide +kernel
theorem dX6_run_41 : decode cX6_run 41 = .ok (.iconst 0, 1) := by decide +kernel
theorem dX6_run_42 : decode cX6_run 42 = .ok (.istore 6, 2) := by decide +kernel
theorem dX6_run_44 : decode cX6_run 44 = .ok (.iload 5, 2) := by decide +kernel
theorem dX6_run_46 : decode cX6_run 46 = .ok (.istore 7, 2) := by decide +kernel
theorem dX6_run_48 : decode cX6_run 48 = .ok (.iload 7, 2) := by decide +kernel
theorem dX6_run_50 : decode cX6_run 50 = .ok (.aload_n 0, 1) := by decide +kernel
theorem dX6_run_51 : decode cX6_run 51 = .ok (.getfield 105, 3) := by decide +kernel
theorem dX6_run_54 : decode cX6_run 54 = .ok (.if_icmp .ge 30, 3) := by decide +kernel
theorem dX6_run_57 : decode cX6_run 57 = .ok (.iload 6, 2) := by decide +kernel
theorem dX6_run_59 : decode cX6_run 59 = .ok (.aload_n 0, 1) := by decide +kernel
theorem dX6_run_60 : decode cX6_run 60 = .ok (.getfield 28, 3) := by decide +kernel
theorem dX6_run_63 : decode cX6_run 63 = .ok (.iload 7, 2) := by decide +kernel
theorem dX6_run_65 : decode cX6_run 65 = .ok (.iaload, 1) := by decide +kernel
theorem dX6_run_66 : decode cX6_run 66 = .ok (.iadd, 1) := by decide +kernel
theorem dX6_run_67 : decode cX6_run 67 = .ok (.istore 6, 2) := by decide +kernel
theorem dX6_run_69 : decode cX6_run 69 = .ok (.iload 6, 2) := by decide +kernel
theorem dX6_run_71 : decode cX6_run 71 = .ok (.iload_n 2, 1) := by decide +kernel
theorem dX6_run_72 : decode cX6_run 72 = .ok (.if_icmp .le 6, 3) := by decide +kernel
theorem dX6_run_75 : decode cX6_run 75 = .ok (.iload 6, 2) := by decide +kernel
theorem dX6_run_77 : decode cX6_run 77 = .ok (.istore_n 2, 1) := by decide +kernel
theorem dX6_run_78 : decode cX6_run 78 = .ok (.iinc 7 1, 3) := by decide +kernel
theorem dX6_run_81 : decode cX6_run 81 = .ok (.goto (-33), 3) := by decide +kernel
theorem dX6_run_84 : decode cX6_run 84 = .ok (.iload 6, 2) := by decide +kernel
theorem dX6_run_86 : decode cX6_run 86 = .ok (.iload 4, 2) := by decide +kernel
theorem dX6_run_88 : decode cX6_run 88 = .ok (.if_icmp .le 7, 3) := by decide +kernel
theorem dX6_run_91 : decode cX6_run 91 = .ok (.iload 6, 2) := by decide +kernel
theorem dX6_run_93 : decode cX6_run 93 = .ok (.istore 4, 2) := by decide +kernel
theorem dX6_run_95 : decode cX6_run 95 = .ok (.iinc 5 1, 3) := by decide +kernel
theorem dX6_run_98 : decode cX6_run 98 = .ok (.goto (-83), 3) := by decide +kernel
theorem dX6_run_101 : decode cX6_run 101 = .ok (.aload_n 0, 1) := by decide +kernel
theorem dX6_run_102 : decode cX6_run 102 = .ok (.getfield 31, 3) := by decide +kernel
theorem dX6_run_105 : decode cX6_run 105 = .ok (.iconst 0, 1) := by decide +kernel
theorem dX6_run_106 : decode cX6_run 106 = .ok (.iload_n 2, 1) := by decide +kernel
theorem dX6_run_107 : decode cX6_run 107 = .ok (.iastore, 1) := by decide +kernel
theorem dX6_run_108 : decode cX6_run 108 = .ok (.aload_n 0, 1) := by decide +kernel
theorem dX6_run_109 : decode cX6_run 109 = .ok (.getfield 31, 3) := by decide +kernel
theorem dX6_run_112 : decode cX6_run 112 = .ok (.iconst 1, 1) := by decide +kernel
theorem dX6_run_113 : decode cX6_run 113 = .ok (.iload_n 1, 1) := by decide +kernel
theorem dX6_run_114 : decode cX6_run 114 = .ok (.iastore, 1) := by decide +kernel
theorem dX6_run_115 : decode cX6_run 115 = .ok (.aload_n 0, 1) := by decide +kernel
theorem dX6_run_116 : decode cX6_run 116 = .ok (.getfield 31, 3) := by decide +kernel
theorem dX6_run_119 : decode cX6_run 119 = .ok (.iconst 2, 1) := by decide +kernel
theorem dX6_run_120 : decode cX6_run 120 = .ok (.iload_n 3, 1) := by decide +kernel
theorem dX6_run_121 : decode cX6_run 121 = .ok (.iastore, 1) := by decide +kernel
theorem dX6_run_122 : decode cX6_run 122 = .ok (.aload_n 0, 1) := by decide +kernel
theorem dX6_run_123 : decode cX6_run 123 = .ok (.getfield 31, 3) := by decide +kernel
theorem dX6_run_126 : decode cX6_run 126 = .ok (.iconst 3, 1) := by decide +kernel
theorem dX6_run_127 : decode cX6_run 127 = .ok (.iload 4, 2) := by decide +kernel
theorem dX6_run_129 : decode cX6_run 129 = .ok (.iastore, 1) := by decide +kernel
theorem dX6_run_130 : decode cX6_run 130 = .ok (.return_, 1) := by decide +kernel
theorem dX6_send_0 : decode cX6_send 0 = .ok (.iconst 0, 1) := by decide +kernel
theorem dX6_send_1 : decode cX6_send 1 = .ok (.istore_n 1, 1) := by decide +kernel
theorem dX6_send_2 : decode cX6_send 2 = .ok (.iconst 0, 1) := by decide +kernel
theorem dX6_send_3 : decode cX6_send 3 = .ok (.istore_n 2, 1) := by decide +kernel
theorem dX6_send_4 : decode cX6_send 4 = .ok (.iload_n 2, 1) := by decide +kernel
theorem dX6_send_5 : decode cX6_send 5 = .ok (.iconst 4, 1) := by decide +kernel
theorem dX6_send_6 : decode cX6_send 6 = .ok (.if_icmp .ge 66, 3) := by decide +kernel
theorem dX6_send_9 : decode cX6_send 9 = .ok (.iload_n 2, 1) := by decide +kernel
theorem dX6_send_10 : decode cX6_send 10 = .ok (.istore_n 3, 1) := by decide +kernel
theorem dX6_send_11 : decode cX6_send 11 = .ok (.iconst 0, 1) := by decide +kernel
theorem dX6_send_12 : decode cX6_send 12 = .ok (.istore 4, 2) := by decide +kernel
theorem dX6_send_14 : decode cX6_send 14 = .ok (.iload 4, 2) := by decide +kernel
theorem dX6_send_16 : decode cX6_send 16 = .ok (.aload_n 0, 1) := by decide +kernel
theorem dX6_send_17 : decode cX6_send 17 = .ok (.getfield 105, 3) := by decide +kernel
theorem dX6_send_20 : decode cX6_send 20 = .ok (.if_icmp .ge 33, 3) := by decide +kernel
theorem dX6_send_23 : decode cX6_send 23 = .ok (.aload_n 0, 1) := by decide +kernel
theorem dX6_send_24 : decode cX6_send 24 = .ok (.getfield 25, 3) := by decide +kernel
theorem dX6_send_27 : decode cX6_send 27 = .ok (.aload_n 0, 1) := by decide +kernel
theorem dX6_send_28 : decode cX6_send 28 = .ok (.getfield 28, 3) := by decide +kernel
theorem dX6_send_31 : decode cX6_send 31 = .ok (.iload 4, 2) := by decide +kernel
theorem dX6_send_33 : decode cX6_send 33 = .ok (.iaload, 1) := by decide +kernel
theorem dX6_send_34 : decode cX6_send 34 = .ok (.bipush 8, 2) := by decide +kernel
theorem dX6_send_36 : decode cX6_send 36 = .ok (.invokestatic 164, 3) := by decide +kernel
theorem dX6_send_39 : decode cX6_send 39 = .ok (.iaload, 1) := by decide +kernel
theorem dX6_send_40 : decode cX6_send 40 = .ok (.iconst 2, 1) := by decide +kernel
theorem dX6_send_41 : decode cX6_send 41 = .ok (.iload_n 3, 1) := by decide +kernel
theorem dX6_send_42 : decode cX6_send 42 = .ok (.imul, 1) := by decide +kernel
theorem dX6_send_43 : decode cX6_send 43 = .ok (.ishr, 1) := by decide +kernel
theorem dX6_send_44 : decode cX6_send 44 = .ok (.iconst 3, 1) := by decide +kernel
theorem dX6_send_45 : decode cX6_send 45 = .ok (.iand, 1) := by decide +kernel
theorem dX6_send_46 : decode cX6_send 46 = .ok (.istore_n 3, 1) := by decide +kernel
theorem dX6_send_47 : decode cX6_send 47 = .ok (.iinc 4 1, 3) := by decide +kernel
theorem dX6_send_50 : decode cX6_send 50 = .ok (.goto (-36), 3) := by decide +kernel
theorem dX6_send_53 : decode cX6_send 53 = .ok (.aload_n 0, 1) := by decide +kernel
theorem dX6_send_54 : decode cX6_send 54 = .ok (.getfield 31, 3) := by decide +kernel
theorem dX6_send_57 : decode cX6_send 57 = .ok (.iload_n 2, 1) := by decide +kernel
theorem dX6_send_58 : decode cX6_send 58 = .ok (.iload_n 3, 1) := by decide +kernel
theorem dX6_send_59 : decode cX6_send 59 = .ok (.iastore, 1) := by decide +kernel
theorem dX6_send_60 : decode cX6_send 60 = .ok (.iload_n 1, 1) := by decide +kernel
theorem dX6_send_61 : decode cX6_send 61 = .ok (.iconst 1, 1) := by decide +kernel
theorem dX6_send_62 : decode cX6_send 62 = .ok (.iload_n 3, 1) := by decide +kernel
theorem dX6_send_63 : decode cX6_send 63 = .ok (.ishl, 1) := by decide +kernel
theorem dX6_send_64 : decode cX6_send 64 = .ok (.ior, 1) := by decide +kernel
theorem dX6_send_65 : decode cX6_send 65 = .ok (.istore_n 1, 1) := by decide +kernel
theorem dX6_send_66 : decode cX6_send 66 = .ok (.iinc 2 1, 3) := by decide +kernel
theorem dX6_send_69 : decode cX6_send 69 = .ok (.goto (-65), 3) := by decide +kernel
theorem dX6_send_72 : decode cX6_send 72 = .ok (.aload_n 0, 1) := by decide +kernel
theorem dX6_send_73 : decode cX6_send 73 = .ok (.getfield 31, 3) := by decide +kernel
theorem dX6_send_76 : decode cX6_send 76 = .ok (.iconst 4, 1) := by decide +kernel
theorem dX6_send_77 : decode cX6_send 77 = .ok (.iload_n 1, 1) := by decide +kernel
theorem dX6_send_78 : decode cX6_send 78 = .ok (.invokestatic 167, 3) := by decide +kernel
theorem dX6_send_81 : decode cX6_send 81 = .ok (.iastore, 1) := by decide +kernel
theorem dX6_send_82 : decode cX6_send 82 = .ok (.return_, 1) := by decide +kernel
theorem dX6_bits_0 : decode cX6_bits 0 = .ok (.iconst 0, 1) := by decide +kernel
theorem dX6_bits_1 : decode cX6_bits 1 = .ok (.istore_n 1, 1) := by decide +kernel
theorem dX6_bits_2 : decode cX6_bits 2 = .ok (.iconst 0, 1) := by decide +kernel
theorem dX6_bits_3 : decode cX6_bits 3 = .ok (.istore_n 2, 1) := by decide +kernel
theorem dX6_bits_4 : decode cX6_bits 4 = .ok (.iload_n 2, 1) := by decide +kernel
theorem dX6_bits_5 : decode cX6_bits 5 = .ok (.iconst 4, 1) := by decide +kernel
theorem dX6_bits_6 : decode cX6_bits 6 = .ok (.if_icmp .ge 17, 3) := by decide +kernel
theorem dX6_bits_9 : decode cX6_bits 9 = .ok (.iload_n 1, 1) := by decide +kernel
theorem dX6_bits_10 : decode cX6_bits 10 = .ok (.iload_n 0, 1) := by decide +kernel
theorem dX6_bits_11 : decode cX6_bits 11 = .ok (.iload_n 2, 1) := by decide +kernel
theorem dX6_bits_12 : decode cX6_bits 12 = .ok (.ishr, 1) := by decide +kernel
theorem dX6_bits_13 : decode cX6_bits 13 = .ok (.iconst 1, 1) := by decide +kernel
theorem dX6_bits_14 : decode cX6_bits 14 = .ok (.iand, 1) := by decide +kernel
theorem dX6_bits_15 : decode cX6_bits 15 = .ok (.iadd, 1) := by decide +kernel
theorem dX6_bits_16 : decode cX6_bits 16 = .ok (.istore_n 1, 1) := by decide +kernel
theorem dX6_bits_17 : decode cX6_bits 17 = .ok (.iinc 2 1, 3) := by decide +kernel
theorem dX6_bits_20 : decode cX6_bits 20 = .ok (.goto (-16), 3) := by decide +kernel
theorem dX6_bits_23 : decode cX6_bits 23 = .ok (.iload_n 1, 1) := by decide +kernel
theorem dX6_bits_24 : decode cX6_bits 24 = .ok (.ireturn, 1) := by decide +kernel
theorem dX6_nest_0 : decode cX6_nest 0 = .ok (.iconst 0, 1) := by decide +kernel
theorem dX6_nest_1 : decode cX6_nest 1 = .ok (.istore_n 1, 1) := by decide +kernel
theorem dX6_nest_2 : decode cX6_nest 2 = .ok (.iconst 0, 1) := by decide +kernel
theorem dX6_nest_3 : decode cX6_nest 3 = .ok (.istore_n 2, 1) := by decide +kernel
theorem dX6_nest_4 : decode cX6_nest 4 = .ok (.iconst 0, 1) := by decide +kernel
theorem dX6_nest_5 : decode cX6_nest 5 = .ok (.istore_n 3, 1) := by decide +kernel
theorem dX6_nest_6 : decode cX6_nest 6 = .ok (.iconst 0, 1) := by decide +kernel
theorem dX6_nest_7 : decode cX6_nest 7 = .ok (.istore 4, 2) := by decide +kernel
theorem dX6_nest_9 : decode cX6_nest 9 = .ok (.iconst 0, 1) := by decide +kernel
theorem dX6_nest_10 : decode cX6_nest 10 = .ok (.istore 5, 2) := by decide +kernel
theorem dX6_nest_12 : decode cX6_nest 12 = .ok (.iconst 0, 1) := by decide +kernel
theorem dX6_nest_13 : decode cX6_nest 13 = .ok (.istore 6, 2) := by decide +kernel
theorem dX6_nest_15 : decode cX6_nest 15 = .ok (.iload 6, 2) := by decide +kernel
theorem dX6_nest_17 : decode cX6_nest 17 = .ok (.aload_n 0, 1) := by decide +kernel
theorem dX6_nest_18 : decode cX6_nest 18 = .ok (.getfield 105, 3) := by decide +kernel
theorem dX6_nest_21 : decode cX6_nest 21 = .ok (.if_icmp .ge 72, 3) := by decide +kernel
theorem dX6_nest_24 : decode cX6_nest 24 = .ok (.iload 4, 2) := by decide +kernel
theorem dX6_nest_26 : decode cX6_nest 26 = .ok (.aload_n 0, 1) := by decide +kernel
theorem dX6_nest_27 : decode cX6_nest 27 = .ok (.getfield 28, 3) := by decide +kernel
theorem dX6_nest_30 : decode cX6_nest 30 = .ok (.iload 6, 2) := by decide +kernel
theorem dX6_nest_32 : decode cX6_nest 32 = .ok (.iaload, 1) := by decide +kernel
theorem dX6_nest_33 : decode cX6_nest 33 = .ok (.ifCond .ge 7, 3) := by decide +kernel
theorem dX6_nest_36 : decode cX6_nest 36 = .ok (.iconst (-1), 1) := by decide +kernel
theorem dX6_nest_37 : decode cX6_nest 37 = .ok (.goto 4, 3) := by decide +kernel
theorem dX6_nest_40 : decode cX6_nest 40 = .ok (.iconst 1, 1) := by decide +kernel
theorem dX6_nest_41 : decode cX6_nest 41 = .ok (.iadd, 1) := by decide +kernel
theorem dX6_nest_42 : decode cX6_nest 42 = .ok (.istore 4, 2) := by decide +kernel
theorem dX6_nest_44 : decode cX6_nest 44 = .ok (.iload 4, 2) := by decide +kernel
theorem dX6_nest_46 : decode cX6_nest 46 = .ok (.iload 5, 2) := by decide +kernel
theorem dX6_nest_48 : decode cX6_nest 48 = .ok (.if_icmp .le 7, 3) := by decide +kernel
theorem dX6_nest_51 : decode cX6_nest 51 = .ok (.iload 4, 2) := by decide +kernel
theorem dX6_nest_53 : decode cX6_nest 53 = .ok (.istore 5, 2) := by decide +kernel
theorem dX6_nest_55 : decode cX6_nest 55 = .ok (.aload_n 0, 1) := by decide +kernel
theorem dX6_nest_56 : decode cX6_nest 56 = .ok (.getfield 28, 3) := by decide +kernel
theorem dX6_nest_59 : decode cX6_nest 59 = .ok (.iload 6, 2) := by decide +kernel
theorem dX6_nest_61 : decode cX6_nest 61 = .ok (.iaload, 1) := by decide +kernel
theorem dX6_nest_62 : decode cX6_nest 62 = .ok (.ifCond .lt 9, 3) := by decide +kernel
theorem dX6_nest_65 : decode cX6_nest 65 = .ok (.iinc 2 1, 3) := by decide +kernel
theorem dX6_nest_68 : decode cX6_nest 68 = .ok (.goto 19, 3) := by decide +kernel
theorem dX6_nest_71 : decode cX6_nest 71 = .ok (.iload_n 2, 1) := by decide +kernel
theorem dX6_nest_72 : decode cX6_nest 72 = .ok (.ifCond .ne 9, 3) := by decide +kernel
theorem dX6_nest_75 : decode cX6_nest 75 = .ok (.iinc 1 1, 3) := by decide +kernel
theorem dX6_nest_78 : decode cX6_nest 78 = .ok (.goto 9, 3) := by decide +kernel
theorem dX6_nest_81 : decode cX6_nest 81 = .ok (.iinc 2 (-1), 3) := by decide +kernel
theorem dX6_nest_84 : decode cX6_nest 84 = .ok (.iinc 3 1, 3) := by decide +kernel
theorem dX6_nest_87 : decode cX6_nest 87 = .ok (.iinc 6 1, 3) := by decide +kernel
theorem dX6_nest_90 : decode cX6_nest 90 = .ok (.goto (-75), 3) := by decide +kernel
theorem dX6_nest_93 : decode cX6_nest 93 = .ok (.aload_n 0, 1) := by decide +kernel
theorem dX6_nest_94 : decode cX6_nest 94 = .ok (.getfield 31, 3) := by decide +kernel
theorem dX6_nest_97 : decode cX6_nest 97 = .ok (.iconst 0, 1) := by decide +kernel
theorem dX6_nest_98 : decode cX6_nest 98 = .ok (.iload_n 1, 1) := by decide +kernel
theorem dX6_nest_99 : decode cX6_nest 99 = .ok (.iastore, 1) := by decide +kernel
theorem dX6_nest_100 : decode cX6_nest 100 = .ok (.aload_n 0, 1) := by decide +kernel
theorem dX6_nest_101 : decode cX6_nest 101 = .ok (.getfield 31, 3) := by decide +kernel
theorem dX6_nest_104 : decode cX6_nest 104 = .ok (.iconst 1, 1) := by decide +kernel
theorem dX6_nest_105 : decode cX6_nest 105 = .ok (.iload_n 2, 1) := by decide +kernel
theorem dX6_nest_106 : decode cX6_nest 106 = .ok (.iastore, 1) := by decide +kernel
theorem dX6_nest_107 : decode cX6_nest 107 = .ok (.aload_n 0, 1) := by decide +kernel
theorem dX6_nest_108 : decode cX6_nest 108 = .ok (.getfield 31, 3) := by decide +kernel
theorem dX6_nest_111 : decode cX6_nest 111 = .ok (.iconst 2, 1) := by decide +kernel
theorem dX6_nest_112 : decode cX6_nest 112 = .ok (.iload_n 3, 1) := by decide +kernel
theorem dX6_nest_113 : decode cX6_nest 113 = .ok (.iastore, 1) := by decide +kernel
theorem dX6_nest_114 : decode cX6_nest 114 = .ok (.aload_n 0, 1) := by decide +kernel
theorem dX6_nest_115 : decode cX6_nest 115 = .ok (.getfield 31, 3) := by decide +kernel
theorem dX6_nest_118 : decode cX6_nest 118 = .ok (.iconst 3, 1) := by decide +kernel
theorem dX6_nest_119 : decode cX6_nest 119 = .ok (.iload 5, 2) := by decide +kernel
theorem dX6_nest_121 : decode cX6_nest 121 = .ok (.iastore, 1) := by decide +kernel
theorem dX6_nest_122 : decode cX6_nest 122 = .ok (.return_, 1) := by decide +kernel
theorem dX6_alikeFrom_0 : decode cX6_alikeFrom 0 = .ok (.iload_n 1, 1) := by decide +kernel
theorem dX6_alikeFrom_1 : decode cX6_alikeFrom 1 = .ok (.istore_n 2, 1) := by decide +kernel
theorem dX6_alikeFrom_2 : decode cX6_alikeFrom 2 = .ok (.iload_n 2, 1) := by decide +kernel
theorem dX6_alikeFrom_3 : decode cX6_alikeFrom 3 = .ok (.aload_n 0, 1) := by decide +kernel
theorem dX6_alikeFrom_4 : decode cX6_alikeFrom 4 = .ok (.getfield 105, 3) := by decide +kernel
theorem dX6_alikeFrom_7 : decode cX6_alikeFrom 7 = .ok (.if_icmp .ge 24, 3) := by decide +kernel
theorem dX6_alikeFrom_10 : decode cX6_alikeFrom 10 = .ok (.aload_n 0, 1) := by decide +kernel
theorem dX6_alikeFrom_11 : decode cX6_alikeFrom 11 = .ok (.getfield 28, 3) := by decide +kernel
theorem dX6_alikeFrom_14 : decode cX6_alikeFrom 14 = .ok (.iload_n 2, 1) := by decide +kernel
theorem dX6_alikeFrom_15 : decode cX6_alikeFrom 15 = .ok (.iaload, 1) := by decide +kernel
theorem dX6_alikeFrom_16 : decode cX6_alikeFrom 16 = .ok (.aload_n 0, 1) := by decide +kernel
theorem dX6_alikeFrom_17 : decode cX6_alikeFrom 17 = .ok (.getfield 28, 3) := by decide +kernel
theorem dX6_alikeFrom_20 : decode cX6_alikeFrom 20 = .ok (.iload_n 1, 1) := by decide +kernel
theorem dX6_alikeFrom_21 : decode cX6_alikeFrom 21 = .ok (.iaload, 1) := by decide +kernel
theorem dX6_alikeFrom_22 : decode cX6_alikeFrom 22 = .ok (.if_icmp .ne 9, 3) := by decide +kernel
theorem dX6_alikeFrom_25 : decode cX6_alikeFrom 25 = .ok (.iinc 2 1, 3) := by decide +kernel
theorem dX6_alikeFrom_28 : decode cX6_alikeFrom 28 = .ok (.goto (-26), 3) := by decide +kernel
theorem dX6_alikeFrom_31 : decode cX6_alikeFrom 31 = .ok (.iload_n 2, 1) := by decide +kernel
theorem dX6_alikeFrom_32 : decode cX6_alikeFrom 32 = .ok (.iload_n 1, 1) := by decide +kernel
theorem dX6_alikeFrom_33 : decode cX6_alikeFrom 33 = .ok (.isub, 1) := by decide +kernel
theorem dX6_alikeFrom_34 : decode cX6_alikeFrom 34 = .ok (.ireturn, 1) := by decide +kernel
theorem dX6_like_0 : decode cX6_like 0 = .ok (.iconst 0, 1) := by decide +kernel
theorem dX6_like_1 : decode cX6_like 1 = .ok (.istore_n 1, 1) := by decide +kernel
theorem dX6_like_2 : decode cX6_like 2 = .ok (.iconst 0, 1) := by decide +kernel
theorem dX6_like_3 : decode cX6_like 3 = .ok (.istore_n 2, 1) := by decide +kernel
theorem dX6_like_4 : decode cX6_like 4 = .ok (.iconst 0, 1) := by decide +kernel
theorem dX6_like_5 : decode cX6_like 5 = .ok (.istore_n 3, 1) := by decide +kernel
theorem dX6_like_6 : decode cX6_like 6 = .ok (.iconst 0, 1) := by decide +kernel
theorem dX6_like_7 : decode cX6_like 7 = .ok (.istore 4, 2) := by decide +kernel
theorem dX6_like_9 : decode cX6_like 9 = .ok (.iconst 0, 1) := by decide +kernel
theorem dX6_like_10 : decode cX6_like 10 = .ok (.istore 5, 2) := by decide +kernel
theorem dX6_like_12 : decode cX6_like 12 = .ok (.iload 5, 2) := by decide +kernel
theorem dX6_like_14 : decode cX6_like 14 = .ok (.aload_n 0, 1) := by decide +kernel
theorem dX6_like_15 : decode cX6_like 15 = .ok (.getfield 105, 3) := by decide +kernel
theorem dX6_like_18 : decode cX6_like 18 = .ok (.if_icmp .ge 44, 3) := by decide +kernel
theorem dX6_like_21 : decode cX6_like 21 = .ok (.aload_n 0, 1) := by decide +kernel
theorem dX6_like_22 : decode cX6_like 22 = .ok (.iload 5, 2) := by decide +kernel
theorem dX6_like_24 : decode cX6_like 24 = .ok (.invokevirtual 170, 3) := by decide +kernel
theorem dX6_like_27 : decode cX6_like 27 = .ok (.istore 4, 2) := by decide +kernel
theorem dX6_like_29 : decode cX6_like 29 = .ok (.iinc 1 1, 3) := by decide +kernel
theorem dX6_like_32 : decode cX6_like 32 = .ok (.iload 4, 2) := by decide +kernel
theorem dX6_like_34 : decode cX6_like 34 = .ok (.iload_n 2, 1) := by decide +kernel
theorem dX6_like_35 : decode cX6_like 35 = .ok (.if_icmp .gt 6, 3) := by decide +kernel
theorem dX6_like_38 : decode cX6_like 38 = .ok (.goto 14, 3) := by decide +kernel
theorem dX6_like_41 : decode cX6_like 41 = .ok (.iload 4, 2) := by decide +kernel
theorem dX6_like_43 : decode cX6_like 43 = .ok (.istore_n 2, 1) := by decide +kernel
theorem dX6_like_44 : decode cX6_like 44 = .ok (.aload_n 0, 1) := by decide +kernel
theorem dX6_like_45 : decode cX6_like 45 = .ok (.getfield 28, 3) := by decide +kernel
theorem dX6_like_48 : decode cX6_like 48 = .ok (.iload 5, 2) := by decide +kernel
theorem dX6_like_50 : decode cX6_like 50 = .ok (.iaload, 1) := by decide +kernel
theorem dX6_like_51 : decode cX6_like 51 = .ok (.istore_n 3, 1) := by decide +kernel
theorem dX6_like_52 : decode cX6_like 52 = .ok (.iload 5, 2) := by decide +kernel
theorem dX6_like_54 : decode cX6_like 54 = .ok (.iload 4, 2) := by decide +kernel
theorem dX6_like_56 : decode cX6_like 56 = .ok (.iadd, 1) := by decide +kernel
theorem dX6_like_57 : decode cX6_like 57 = .ok (.istore 5, 2) := by decide +kernel
theorem dX6_like_59 : decode cX6_like 59 = .ok (.goto (-47), 3) := by decide +kernel
theorem dX6_like_62 : decode cX6_like 62 = .ok (.aload_n 0, 1) := by decide +kernel
theorem dX6_like_63 : decode cX6_like 63 = .ok (.getfield 31, 3) := by decide +kernel
theorem dX6_like_66 : decode cX6_like 66 = .ok (.iconst 0, 1) := by decide +kernel
theorem dX6_like_67 : decode cX6_like 67 = .ok (.iload_n 2, 1) := by decide +kernel
theorem dX6_like_68 : decode cX6_like 68 = .ok (.iastore, 1) := by decide +kernel
theorem dX6_like_69 : decode cX6_like 69 = .ok (.aload_n 0, 1) := by decide +kernel
theorem dX6_like_70 : decode cX6_like 70 = .ok (.getfield 31, 3) := by decide +kernel
theorem dX6_like_73 : decode cX6_like 73 = .ok (.iconst 1, 1) := by decide +kernel
theorem dX6_like_74 : decode cX6_like 74 = .ok (.iload_n 3, 1) := by decide +kernel
theorem dX6_like_75 : decode cX6_like 75 = .ok (.iastore, 1) := by decide +kernel
theorem dX6_like_76 : decode cX6_like 76 = .ok (.aload_n 0, 1) := by decide +kernel
theorem dX6_like_77 : decode cX6_like 77 = .ok (.getfield 31, 3) := by decide +kernel
theorem dX6_like_80 : decode cX6_like 80 = .ok (.iconst 2, 1) := by decide +kernel
theorem dX6_like_81 : decode cX6_like 81 = .ok (.iload_n 1, 1) := by decide +kernel
theorem dX6_like_82 : decode cX6_like 82 = .ok (.iastore, 1) := by decide +kernel
theorem dX6_like_83 : decode cX6_like 83 = .ok (.aload_n 0, 1) := by decide +kernel
theorem dX6_like_84 : decode cX6_like 84 = .ok (.getfield 31, 3) := by decide +kernel
theorem dX6_like_87 : decode cX6_like 87 = .ok (.iconst 3, 1) := by decide +kernel
theorem dX6_like_88 : decode cX6_like 88 = .ok (.aload_n 0, 1) := by decide +kernel
theorem dX6_like_89 : decode cX6_like 89 = .ok (.iconst 0, 1) := by decide +kernel
theorem dX6_like_90 : decode cX6_like 90 = .ok (.invokevirtual 170, 3) := by decide +kernel
theorem dX6_like_93 : decode cX6_like 93 = .ok (.iastore, 1) := by decide +kernel
theorem dX6_like_94 : decode cX6_like 94 = .ok (.aload_n 0, 1) := by decide +kernel
theorem dX6_like_95 : decode cX6_like 95 = .ok (.getfield 31, 3) := by decide +kernel
theorem dX6_like_98 : decode cX6_like 98 = .ok (.iconst 4, 1) := by decide +kernel
theorem dX6_like_99 : decode cX6_like 99 = .ok (.iload 4, 2) := by decide +kernel
theorem dX6_like_101 : decode cX6_like 101 = .ok (.iastore, 1) := by decide +kernel
theorem dX6_like_102 : decode cX6_like 102 = .ok (.aload_n 0, 1) := by decide +kernel
theorem dX6_like_103 : decode cX6_like 103 = .ok (.getfield 31, 3) := by decide +kernel
theorem dX6_like_106 : decode cX6_like 106 = .ok (.iconst 5, 1) := by decide +kernel
theorem dX6_like_107 : decode cX6_like 107 = .ok (.aload_n 0, 1) := by decide +kernel
theorem dX6_like_108 : decode cX6_like 108 = .ok (.getfield 28, 3) := by decide +kernel
theorem dX6_like_111 : decode cX6_like 111 = .ok (.iconst 0, 1) := by decide +kernel
theorem dX6_like_112 : decode cX6_like 112 = .ok (.iaload, 1) := by decide +kernel
theorem dX6_like_113 : decode cX6_like 113 = .ok (.iastore, 1) := by decide +kernel
theorem dX6_like_114 : decode cX6_like 114 = .ok (.aload_n 0, 1) := by decide +kernel
theorem dX6_like_115 : decode cX6_like 115 = .ok (.getfield 31, 3) := by decide +kernel
theorem dX6_like_118 : decode cX6_like 118 = .ok (.bipush 6, 2) := by decide +kernel
theorem dX6_like_120 : decode cX6_like 120 = .ok (.aload_n 0, 1) := by decide +kernel
theorem dX6_like_121 : decode cX6_like 121 = .ok (.getfield 28, 3) := by decide +kernel
theorem dX6_like_124 : decode cX6_like 124 = .ok (.aload_n 0, 1) := by decide +kernel
theorem dX6_like_125 : decode cX6_like 125 = .ok (.getfield 105, 3) := by decide +kernel
theorem dX6_like_128 : decode cX6_like 128 = .ok (.iconst 1, 1) := by decide +kernel
theorem dX6_like_129 : decode cX6_like 129 = .ok (.isub, 1) := by decide +kernel
theorem dX6_like_130 : decode cX6_like 130 = .ok (.iaload, 1) := by decide +kernel
theorem dX6_like_131 : decode cX6_like 131 = .ok (.iastore, 1) := by decide +kernel
theorem dX6_like_132 : decode cX6_like 132 = .ok (.return_, 1) := by decide +kernel
theorem dX6_steps_0 : decode cX6_steps 0 = .ok (.iconst 0, 1) := by decide +kernel
theorem dX6_steps_1 : decode cX6_steps 1 = .ok (.istore_n 1, 1) := by decide +kernel
theorem dX6_steps_2 : decode cX6_steps 2 = .ok (.iconst 0, 1) := by decide +kernel
theorem dX6_steps_3 : decode cX6_steps 3 = .ok (.istore_n 2, 1) := by decide +kernel
theorem dX6_steps_4 : decode cX6_steps 4 = .ok (.iconst 1, 1) := by decide +kernel
theorem dX6_steps_5 : decode cX6_steps 5 = .ok (.istore_n 3, 1) := by decide +kernel
theorem dX6_steps_6 : decode cX6_steps 6 = .ok (.iconst 1, 1) := by decide +kernel
theorem dX6_steps_7 : decode cX6_steps 7 = .ok (.istore 4, 2) := by decide +kernel
theorem dX6_steps_9 : decode cX6_steps 9 = .ok (.iconst 1, 1) := by decide +kernel
theorem dX6_steps_10 : decode cX6_steps 10 = .ok (.istore 5, 2) := by decide +kernel
theorem dX6_steps_12 : decode cX6_steps 12 = .ok (.iload 5, 2) := by decide +kernel
theorem dX6_steps_14 : decode cX6_steps 14 = .ok (.aload_n 0, 1) := by decide +kernel
theorem dX6_steps_15 : decode cX6_steps 15 = .ok (.getfield 105, 3) := by decide +kernel
theorem dX6_steps_18 : decode cX6_steps 18 = .ok (.if_icmp .ge 99, 3) := by decide +kernel
theorem dX6_steps_21 : decode cX6_steps 21 = .ok (.iload_n 1, 1) := by decide +kernel
theorem dX6_steps_22 : decode cX6_steps 22 = .ok (.aload_n 0, 1) := by decide +kernel
theorem dX6_steps_23 : decode cX6_steps 23 = .ok (.getfield 28, 3) := by decide +kernel
theorem dX6_steps_26 : decode cX6_steps 26 = .ok (.iload 5, 2) := by decide +kernel
theorem dX6_steps_28 : decode cX6_steps 28 = .ok (.iaload, 1) := by decide +kernel
theorem dX6_steps_29 : decode cX6_steps 29 = .ok (.aload_n 0, 1) := by decide +kernel
theorem dX6_steps_30 : decode cX6_steps 30 = .ok (.getfield 28, 3) := by decide +kernel
theorem dX6_steps_33 : decode cX6_steps 33 = .ok (.iload 5, 2) := by decide +kernel
theorem dX6_steps_35 : decode cX6_steps 35 = .ok (.iconst 1, 1) := by decide +kernel
theorem dX6_steps_36 : decode cX6_steps 36 = .ok (.isub, 1) := by decide +kernel
theorem dX6_steps_37 : decode cX6_steps 37 = .ok (.iaload, 1) := by decide +kernel
theorem dX6_steps_38 : decode cX6_steps 38 = .ok (.if_icmp .ge 7, 3) := by decide +kernel
theorem dX6_steps_41 : decode cX6_steps 41 = .ok (.iconst 1, 1) := by decide +kernel
