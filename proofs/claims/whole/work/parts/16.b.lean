theorem d_R_within_0 : decode prog_7_method_3_code 0 = .ok (.iload_n 0, 1) := by decide +kernel
theorem d_R_within_1 : decode prog_7_method_3_code 1 = .ok (.iload_n 1, 1) := by decide +kernel
theorem d_R_within_2 : decode prog_7_method_3_code 2 = .ok (.if_icmp .lt 12, 3) := by decide +kernel
theorem d_R_within_5 : decode prog_7_method_3_code 5 = .ok (.iload_n 0, 1) := by decide +kernel
theorem d_R_within_6 : decode prog_7_method_3_code 6 = .ok (.iload_n 2, 1) := by decide +kernel
theorem d_R_within_7 : decode prog_7_method_3_code 7 = .ok (.if_icmp .gt 7, 3) := by decide +kernel
theorem d_R_within_10 : decode prog_7_method_3_code 10 = .ok (.iconst 1, 1) := by decide +kernel
theorem d_R_within_11 : decode prog_7_method_3_code 11 = .ok (.goto 4, 3) := by decide +kernel
theorem d_R_within_14 : decode prog_7_method_3_code 14 = .ok (.iconst 0, 1) := by decide +kernel
theorem d_R_within_15 : decode prog_7_method_3_code 15 = .ok (.ireturn, 1) := by decide +kernel
theorem d_R_isCell_0 : decode prog_7_method_9_code 0 = .ok (.iload_n 0, 1) := by decide +kernel
theorem d_R_isCell_1 : decode prog_7_method_9_code 1 = .ok (.iconst 0, 1) := by decide +kernel
theorem d_R_isCell_2 : decode prog_7_method_9_code 2 = .ok (.bipush 15, 2) := by decide +kernel
theorem d_R_isCell_4 : decode prog_7_method_9_code 4 = .ok (.invokestatic 70, 3) := by decide +kernel
theorem d_R_isCell_7 : decode prog_7_method_9_code 7 = .ok (.ireturn, 1) := by decide +kernel
theorem d_R_isAim_0 : decode prog_7_method_10_code 0 = .ok (.iload_n 0, 1) := by decide +kernel
theorem d_R_isAim_1 : decode prog_7_method_10_code 1 = .ok (.iconst 0, 1) := by decide +kernel
theorem d_R_isAim_2 : decode prog_7_method_10_code 2 = .ok (.bipush 7, 2) := by decide +kernel
theorem d_R_isAim_4 : decode prog_7_method_10_code 4 = .ok (.invokestatic 70, 3) := by decide +kernel
theorem d_R_isAim_7 : decode prog_7_method_10_code 7 = .ok (.ireturn, 1) := by decide +kernel
theorem d_R_isSet_0 : decode prog_7_method_11_code 0 = .ok (.iload_n 0, 1) := by decide +kernel
theorem d_R_isSet_1 : decode prog_7_method_11_code 1 = .ok (.iconst 0, 1) := by decide +kernel
theorem d_R_isSet_2 : decode prog_7_method_11_code 2 = .ok (.sipush 255, 3) := by decide +kernel
theorem d_R_isSet_5 : decode prog_7_method_11_code 5 = .ok (.invokestatic 70, 3) := by decide +kernel
theorem d_R_isSet_8 : decode prog_7_method_11_code 8 = .ok (.ireturn, 1) := by decide +kernel
theorem d_R_isPace_0 : decode prog_7_method_12_code 0 = .ok (.iload_n 0, 1) := by decide +kernel
theorem d_R_isPace_1 : decode prog_7_method_12_code 1 = .ok (.iconst 1, 1) := by decide +kernel
theorem d_R_isPace_2 : decode prog_7_method_12_code 2 = .ok (.iconst 5, 1) := by decide +kernel
theorem d_R_isPace_3 : decode prog_7_method_12_code 3 = .ok (.invokestatic 70, 3) := by decide +kernel
theorem d_R_isPace_6 : decode prog_7_method_12_code 6 = .ok (.ireturn, 1) := by decide +kernel
theorem d_R_isPlace_0 : decode prog_7_method_13_code 0 = .ok (.iload_n 0, 1) := by decide +kernel
theorem d_R_isPlace_1 : decode prog_7_method_13_code 1 = .ok (.iconst 0, 1) := by decide +kernel
theorem d_R_isPlace_2 : decode prog_7_method_13_code 2 = .ok (.iconst 5, 1) := by decide +kernel
theorem d_R_isPlace_3 : decode prog_7_method_13_code 3 = .ok (.invokestatic 70, 3) := by decide +kernel
theorem d_R_isPlace_6 : decode prog_7_method_13_code 6 = .ok (.ireturn, 1) := by decide +kernel
theorem d_R_isKind_0 : decode prog_7_method_23_code 0 = .ok (.iload_n 0, 1) := by decide +kernel
theorem d_R_isKind_1 : decode prog_7_method_23_code 1 = .ok (.iconst 0, 1) := by decide +kernel
theorem d_R_isKind_2 : decode prog_7_method_23_code 2 = .ok (.bipush 6, 2) := by decide +kernel
theorem d_R_isKind_4 : decode prog_7_method_23_code 4 = .ok (.invokestatic 70, 3) := by decide +kernel
theorem d_R_isKind_7 : decode prog_7_method_23_code 7 = .ok (.ireturn, 1) := by decide +kernel
theorem d_R_isThought_0 : decode prog_7_method_64_code 0 = .ok (.iload_n 0, 1) := by decide +kernel
theorem d_R_isThought_1 : decode prog_7_method_64_code 1 = .ok (.iconst 0, 1) := by decide +kernel
theorem d_R_isThought_2 : decode prog_7_method_64_code 2 = .ok (.bipush 40, 2) := by decide +kernel
theorem d_R_isThought_4 : decode prog_7_method_64_code 4 = .ok (.invokestatic 70, 3) := by decide +kernel
theorem d_R_isThought_7 : decode prog_7_method_64_code 7 = .ok (.ireturn, 1) := by decide +kernel
theorem d_R_isSpot_0 : decode prog_7_method_95_code 0 = .ok (.iload_n 0, 1) := by decide +kernel
theorem d_R_isSpot_1 : decode prog_7_method_95_code 1 = .ok (.iconst 0, 1) := by decide +kernel
theorem d_R_isSpot_2 : decode prog_7_method_95_code 2 = .ok (.bipush 9, 2) := by decide +kernel
theorem d_R_isSpot_4 : decode prog_7_method_95_code 4 = .ok (.invokestatic 70, 3) := by decide +kernel
theorem d_R_isSpot_7 : decode prog_7_method_95_code 7 = .ok (.ireturn, 1) := by decide +kernel
theorem d_R_isSheet_0 : decode prog_7_method_98_code 0 = .ok (.iload_n 0, 1) := by decide +kernel
theorem d_R_isSheet_1 : decode prog_7_method_98_code 1 = .ok (.iconst 0, 1) := by decide +kernel
theorem d_R_isSheet_2 : decode prog_7_method_98_code 2 = .ok (.iconst 3, 1) := by decide +kernel
theorem d_R_isSheet_3 : decode prog_7_method_98_code 3 = .ok (.invokestatic 70, 3) := by decide +kernel
theorem d_R_isSheet_6 : decode prog_7_method_98_code 6 = .ok (.ireturn, 1) := by decide +kernel
theorem d_R_isThing_0 : decode prog_7_method_19_code 0 = .ok (.iload_n 1, 1) := by decide +kernel
theorem d_R_isThing_1 : decode prog_7_method_19_code 1 = .ok (.iconst 0, 1) := by decide +kernel
theorem d_R_isThing_2 : decode prog_7_method_19_code 2 = .ok (.aload_n 0, 1) := by decide +kernel
theorem d_R_isThing_3 : decode prog_7_method_19_code 3 = .ok (.getfield 9, 3) := by decide +kernel
theorem d_R_isThing_6 : decode prog_7_method_19_code 6 = .ok (.iconst 1, 1) := by decide +kernel
theorem d_R_isThing_7 : decode prog_7_method_19_code 7 = .ok (.iaload, 1) := by decide +kernel
theorem d_R_isThing_8 : decode prog_7_method_19_code 8 = .ok (.iconst 1, 1) := by decide +kernel
theorem d_R_isThing_9 : decode prog_7_method_19_code 9 = .ok (.isub, 1) := by decide +kernel
theorem d_R_isThing_10 : decode prog_7_method_19_code 10 = .ok (.invokestatic 70, 3) := by decide +kernel
theorem d_R_isThing_13 : decode prog_7_method_19_code 13 = .ok (.ireturn, 1) := by decide +kernel
theorem d_R_isWalker_0 : decode prog_7_method_22_code 0 = .ok (.iload_n 1, 1) := by decide +kernel
theorem d_R_isWalker_1 : decode prog_7_method_22_code 1 = .ok (.iconst 0, 1) := by decide +kernel
theorem d_R_isWalker_2 : decode prog_7_method_22_code 2 = .ok (.aload_n 0, 1) := by decide +kernel
theorem d_R_isWalker_3 : decode prog_7_method_22_code 3 = .ok (.getfield 9, 3) := by decide +kernel
theorem d_R_isWalker_6 : decode prog_7_method_22_code 6 = .ok (.iconst 3, 1) := by decide +kernel
theorem d_R_isWalker_7 : decode prog_7_method_22_code 7 = .ok (.iaload, 1) := by decide +kernel
theorem d_R_isWalker_8 : decode prog_7_method_22_code 8 = .ok (.iconst 1, 1) := by decide +kernel
theorem d_R_isWalker_9 : decode prog_7_method_22_code 9 = .ok (.isub, 1) := by decide +kernel
theorem d_R_isWalker_10 : decode prog_7_method_22_code 10 = .ok (.invokestatic 70, 3) := by decide +kernel
theorem d_R_isWalker_13 : decode prog_7_method_22_code 13 = .ok (.ireturn, 1) := by decide +kernel
theorem d_R_finding_0 : decode prog_7_method_2_code 0 = .ok (.aload_n 0, 1) := by decide +kernel
theorem d_R_finding_1 : decode prog_7_method_2_code 1 = .ok (.getfield 19, 3) := by decide +kernel
theorem d_R_finding_4 : decode prog_7_method_2_code 4 = .ok (.ldc 60, 2) := by decide +kernel
theorem d_R_finding_6 : decode prog_7_method_2_code 6 = .ok (.iload_n 1, 1) := by decide +kernel
theorem d_R_finding_7 : decode prog_7_method_2_code 7 = .ok (.isub, 1) := by decide +kernel
theorem d_R_finding_8 : decode prog_7_method_2_code 8 = .ok (.iconst 1, 1) := by decide +kernel
theorem d_R_finding_9 : decode prog_7_method_2_code 9 = .ok (.iadd, 1) := by decide +kernel
theorem d_R_finding_10 : decode prog_7_method_2_code 10 = .ok (.dup2, 1) := by decide +kernel
theorem d_R_finding_11 : decode prog_7_method_2_code 11 = .ok (.iaload, 1) := by decide +kernel
theorem d_R_finding_12 : decode prog_7_method_2_code 12 = .ok (.iconst 1, 1) := by decide +kernel
theorem d_R_finding_13 : decode prog_7_method_2_code 13 = .ok (.iadd, 1) := by decide +kernel
theorem d_R_finding_14 : decode prog_7_method_2_code 14 = .ok (.iastore, 1) := by decide +kernel
theorem d_R_finding_15 : decode prog_7_method_2_code 15 = .ok (.aload_n 0, 1) := by decide +kernel
theorem d_R_finding_16 : decode prog_7_method_2_code 16 = .ok (.getfield 19, 3) := by decide +kernel
theorem d_R_finding_19 : decode prog_7_method_2_code 19 = .ok (.iconst 0, 1) := by decide +kernel
theorem d_R_finding_20 : decode prog_7_method_2_code 20 = .ok (.dup2, 1) := by decide +kernel
theorem d_R_finding_21 : decode prog_7_method_2_code 21 = .ok (.iaload, 1) := by decide +kernel
theorem d_R_finding_22 : decode prog_7_method_2_code 22 = .ok (.iconst 1, 1) := by decide +kernel
theorem d_R_finding_23 : decode prog_7_method_2_code 23 = .ok (.iadd, 1) := by decide +kernel
theorem d_R_finding_24 : decode prog_7_method_2_code 24 = .ok (.iastore, 1) := by decide +kernel
theorem d_R_finding_25 : decode prog_7_method_2_code 25 = .ok (.iload_n 1, 1) := by decide +kernel
theorem d_R_finding_26 : decode prog_7_method_2_code 26 = .ok (.ireturn, 1) := by decide +kernel
theorem d_R_become_0 : decode prog_7_method_4_code 0 = .ok (.aload_n 0, 1) := by decide +kernel
theorem d_R_become_1 : decode prog_7_method_4_code 1 = .ok (.getfield 9, 3) := by decide +kernel
theorem d_R_become_4 : decode prog_7_method_4_code 4 = .ok (.iload_n 1, 1) := by decide +kernel
theorem d_R_become_5 : decode prog_7_method_4_code 5 = .ok (.iaload, 1) := by decide +kernel
theorem d_R_become_6 : decode prog_7_method_4_code 6 = .ok (.istore_n 3, 1) := by decide +kernel
theorem d_R_become_7 : decode prog_7_method_4_code 7 = .ok (.aload_n 0, 1) := by decide +kernel
theorem d_R_become_8 : decode prog_7_method_4_code 8 = .ok (.getfield 9, 3) := by decide +kernel
theorem d_R_become_11 : decode prog_7_method_4_code 11 = .ok (.iload_n 1, 1) := by decide +kernel
theorem d_R_become_12 : decode prog_7_method_4_code 12 = .ok (.iload_n 2, 1) := by decide +kernel
theorem d_R_become_13 : decode prog_7_method_4_code 13 = .ok (.iastore, 1) := by decide +kernel
theorem d_R_become_14 : decode prog_7_method_4_code 14 = .ok (.iload_n 3, 1) := by decide +kernel
theorem d_R_become_15 : decode prog_7_method_4_code 15 = .ok (.ireturn, 1) := by decide +kernel
theorem d_R_thingAt_0 : decode prog_7_method_17_code 0 = .ok (.bipush 20, 2) := by decide +kernel
theorem d_R_thingAt_2 : decode prog_7_method_17_code 2 = .ok (.iconst 3, 1) := by decide +kernel
theorem d_R_thingAt_3 : decode prog_7_method_17_code 3 = .ok (.iload_n 0, 1) := by decide +kernel
theorem d_R_thingAt_4 : decode prog_7_method_17_code 4 = .ok (.imul, 1) := by decide +kernel
theorem d_R_thingAt_5 : decode prog_7_method_17_code 5 = .ok (.iadd, 1) := by decide +kernel
theorem d_R_thingAt_6 : decode prog_7_method_17_code 6 = .ok (.iload_n 1, 1) := by decide +kernel
theorem d_R_thingAt_7 : decode prog_7_method_17_code 7 = .ok (.iadd, 1) := by decide +kernel
theorem d_R_thingAt_8 : decode prog_7_method_17_code 8 = .ok (.ireturn, 1) := by decide +kernel
theorem d_R_walkerAt_0 : decode prog_7_method_20_code 0 = .ok (.bipush 44, 2) := by decide +kernel
theorem d_R_walkerAt_2 : decode prog_7_method_20_code 2 = .ok (.bipush 6, 2) := by decide +kernel
theorem d_R_walkerAt_4 : decode prog_7_method_20_code 4 = .ok (.iload_n 0, 1) := by decide +kernel
theorem d_R_walkerAt_5 : decode prog_7_method_20_code 5 = .ok (.imul, 1) := by decide +kernel
theorem d_R_walkerAt_6 : decode prog_7_method_20_code 6 = .ok (.iadd, 1) := by decide +kernel
theorem d_R_walkerAt_7 : decode prog_7_method_20_code 7 = .ok (.iload_n 1, 1) := by decide +kernel
theorem d_R_walkerAt_8 : decode prog_7_method_20_code 8 = .ok (.iadd, 1) := by decide +kernel
theorem d_R_walkerAt_9 : decode prog_7_method_20_code 9 = .ok (.ireturn, 1) := by decide +kernel
theorem d_R_thingIs_0 : decode prog_7_method_18_code 0 = .ok (.aload_n 0, 1) := by decide +kernel
theorem d_R_thingIs_1 : decode prog_7_method_18_code 1 = .ok (.getfield 9, 3) := by decide +kernel
theorem d_R_thingIs_4 : decode prog_7_method_18_code 4 = .ok (.iload_n 1, 1) := by decide +kernel
theorem d_R_thingIs_5 : decode prog_7_method_18_code 5 = .ok (.iload_n 2, 1) := by decide +kernel
theorem d_R_thingIs_6 : decode prog_7_method_18_code 6 = .ok (.invokestatic 85, 3) := by decide +kernel
theorem d_R_thingIs_9 : decode prog_7_method_18_code 9 = .ok (.iaload, 1) := by decide +kernel
theorem d_R_thingIs_10 : decode prog_7_method_18_code 10 = .ok (.ireturn, 1) := by decide +kernel
theorem d_R_walkerIs_0 : decode prog_7_method_21_code 0 = .ok (.aload_n 0, 1) := by decide +kernel
theorem d_R_walkerIs_1 : decode prog_7_method_21_code 1 = .ok (.getfield 9, 3) := by decide +kernel
theorem d_R_walkerIs_4 : decode prog_7_method_21_code 4 = .ok (.iload_n 1, 1) := by decide +kernel
theorem d_R_walkerIs_5 : decode prog_7_method_21_code 5 = .ok (.iload_n 2, 1) := by decide +kernel
theorem d_R_walkerIs_6 : decode prog_7_method_21_code 6 = .ok (.invokestatic 88, 3) := by decide +kernel
theorem d_R_walkerIs_9 : decode prog_7_method_21_code 9 = .ok (.iaload, 1) := by decide +kernel
theorem d_R_walkerIs_10 : decode prog_7_method_21_code 10 = .ok (.ireturn, 1) := by decide +kernel
theorem d_R_placeNow_0 : decode prog_7_method_16_code 0 = .ok (.iconst 4, 1) := by decide +kernel
theorem d_R_placeNow_1 : decode prog_7_method_16_code 1 = .ok (.aload_n 0, 1) := by decide +kernel
theorem d_R_placeNow_2 : decode prog_7_method_16_code 2 = .ok (.getfield 9, 3) := by decide +kernel
theorem d_R_placeNow_5 : decode prog_7_method_16_code 5 = .ok (.iconst 0, 1) := by decide +kernel
theorem d_R_placeNow_6 : decode prog_7_method_16_code 6 = .ok (.iaload, 1) := by decide +kernel
theorem d_R_placeNow_7 : decode prog_7_method_16_code 7 = .ok (.bipush 6, 2) := by decide +kernel
theorem d_R_placeNow_9 : decode prog_7_method_16_code 9 = .ok (.irem, 1) := by decide +kernel
theorem d_R_placeNow_10 : decode prog_7_method_16_code 10 = .ok (.iadd, 1) := by decide +kernel
theorem d_R_placeNow_11 : decode prog_7_method_16_code 11 = .ok (.ireturn, 1) := by decide +kernel
theorem d_R_comes_0 : decode prog_7_method_24_code 0 = .ok (.aload_n 0, 1) := by decide +kernel
theorem d_R_comes_1 : decode prog_7_method_24_code 1 = .ok (.getfield 9, 3) := by decide +kernel
theorem d_R_comes_4 : decode prog_7_method_24_code 4 = .ok (.iconst 1, 1) := by decide +kernel
theorem d_R_comes_5 : decode prog_7_method_24_code 5 = .ok (.iaload, 1) := by decide +kernel
theorem d_R_comes_6 : decode prog_7_method_24_code 6 = .ok (.istore_n 3, 1) := by decide +kernel
theorem d_R_comes_7 : decode prog_7_method_24_code 7 = .ok (.aload_n 0, 1) := by decide +kernel
theorem d_R_comes_8 : decode prog_7_method_24_code 8 = .ok (.getfield 9, 3) := by decide +kernel
theorem d_R_comes_11 : decode prog_7_method_24_code 11 = .ok (.iload_n 3, 1) := by decide +kernel
theorem d_R_comes_12 : decode prog_7_method_24_code 12 = .ok (.iconst 0, 1) := by decide +kernel
theorem d_R_comes_13 : decode prog_7_method_24_code 13 = .ok (.invokestatic 85, 3) := by decide +kernel
theorem d_R_comes_16 : decode prog_7_method_24_code 16 = .ok (.iload_n 1, 1) := by decide +kernel
theorem d_R_comes_17 : decode prog_7_method_24_code 17 = .ok (.iastore, 1) := by decide +kernel
theorem d_R_comes_18 : decode prog_7_method_24_code 18 = .ok (.aload_n 0, 1) := by decide +kernel
theorem d_R_comes_19 : decode prog_7_method_24_code 19 = .ok (.getfield 9, 3) := by decide +kernel
theorem d_R_comes_22 : decode prog_7_method_24_code 22 = .ok (.iload_n 3, 1) := by decide +kernel
theorem d_R_comes_23 : decode prog_7_method_24_code 23 = .ok (.iconst 1, 1) := by decide +kernel
theorem d_R_comes_24 : decode prog_7_method_24_code 24 = .ok (.invokestatic 85, 3) := by decide +kernel
theorem d_R_comes_27 : decode prog_7_method_24_code 27 = .ok (.iload_n 2, 1) := by decide +kernel
theorem d_R_comes_28 : decode prog_7_method_24_code 28 = .ok (.iastore, 1) := by decide +kernel
theorem d_R_comes_29 : decode prog_7_method_24_code 29 = .ok (.aload_n 0, 1) := by decide +kernel
theorem d_R_comes_30 : decode prog_7_method_24_code 30 = .ok (.getfield 9, 3) := by decide +kernel
theorem d_R_comes_33 : decode prog_7_method_24_code 33 = .ok (.iload_n 3, 1) := by decide +kernel
theorem d_R_comes_34 : decode prog_7_method_24_code 34 = .ok (.iconst 2, 1) := by decide +kernel
theorem d_R_comes_35 : decode prog_7_method_24_code 35 = .ok (.invokestatic 85, 3) := by decide +kernel
theorem d_R_comes_38 : decode prog_7_method_24_code 38 = .ok (.iconst 0, 1) := by decide +kernel
theorem d_R_comes_39 : decode prog_7_method_24_code 39 = .ok (.iastore, 1) := by decide +kernel
theorem d_R_comes_40 : decode prog_7_method_24_code 40 = .ok (.aload_n 0, 1) := by decide +kernel
theorem d_R_comes_41 : decode prog_7_method_24_code 41 = .ok (.getfield 9, 3) := by decide +kernel
theorem d_R_comes_44 : decode prog_7_method_24_code 44 = .ok (.iconst 1, 1) := by decide +kernel
theorem d_R_comes_45 : decode prog_7_method_24_code 45 = .ok (.dup2, 1) := by decide +kernel
theorem d_R_comes_46 : decode prog_7_method_24_code 46 = .ok (.iaload, 1) := by decide +kernel
theorem d_R_comes_47 : decode prog_7_method_24_code 47 = .ok (.iconst 1, 1) := by decide +kernel
theorem d_R_comes_48 : decode prog_7_method_24_code 48 = .ok (.iadd, 1) := by decide +kernel
theorem d_R_comes_49 : decode prog_7_method_24_code 49 = .ok (.iastore, 1) := by decide +kernel
theorem d_R_comes_50 : decode prog_7_method_24_code 50 = .ok (.iload_n 3, 1) := by decide +kernel
theorem d_R_comes_51 : decode prog_7_method_24_code 51 = .ok (.ireturn, 1) := by decide +kernel
theorem d_R_setsOut_0 : decode prog_7_method_26_code 0 = .ok (.aload_n 0, 1) := by decide +kernel
theorem d_R_setsOut_1 : decode prog_7_method_26_code 1 = .ok (.getfield 9, 3) := by decide +kernel
theorem d_R_setsOut_4 : decode prog_7_method_26_code 4 = .ok (.iconst 3, 1) := by decide +kernel
theorem d_R_setsOut_5 : decode prog_7_method_26_code 5 = .ok (.iaload, 1) := by decide +kernel
theorem d_R_setsOut_6 : decode prog_7_method_26_code 6 = .ok (.istore_n 3, 1) := by decide +kernel
theorem d_R_setsOut_7 : decode prog_7_method_26_code 7 = .ok (.iconst 0, 1) := by decide +kernel
theorem d_R_setsOut_8 : decode prog_7_method_26_code 8 = .ok (.istore 4, 2) := by decide +kernel
theorem d_R_setsOut_10 : decode prog_7_method_26_code 10 = .ok (.iload 4, 2) := by decide +kernel
theorem d_R_setsOut_12 : decode prog_7_method_26_code 12 = .ok (.bipush 6, 2) := by decide +kernel
theorem d_R_setsOut_14 : decode prog_7_method_26_code 14 = .ok (.if_icmp .ge 21, 3) := by decide +kernel
theorem d_R_setsOut_17 : decode prog_7_method_26_code 17 = .ok (.aload_n 0, 1) := by decide +kernel
theorem d_R_setsOut_18 : decode prog_7_method_26_code 18 = .ok (.getfield 9, 3) := by decide +kernel
theorem d_R_setsOut_21 : decode prog_7_method_26_code 21 = .ok (.iload_n 3, 1) := by decide +kernel
theorem d_R_setsOut_22 : decode prog_7_method_26_code 22 = .ok (.iload 4, 2) := by decide +kernel
theorem d_R_setsOut_24 : decode prog_7_method_26_code 24 = .ok (.invokestatic 88, 3) := by decide +kernel
theorem d_R_setsOut_27 : decode prog_7_method_26_code 27 = .ok (.iconst 0, 1) := by decide +kernel
theorem d_R_setsOut_28 : decode prog_7_method_26_code 28 = .ok (.iastore, 1) := by decide +kernel
theorem d_R_setsOut_29 : decode prog_7_method_26_code 29 = .ok (.iinc 4 1, 3) := by decide +kernel
theorem d_R_setsOut_32 : decode prog_7_method_26_code 32 = .ok (.goto (-22), 3) := by decide +kernel
theorem d_R_setsOut_35 : decode prog_7_method_26_code 35 = .ok (.aload_n 0, 1) := by decide +kernel
theorem d_R_setsOut_36 : decode prog_7_method_26_code 36 = .ok (.getfield 9, 3) := by decide +kernel
theorem d_R_setsOut_39 : decode prog_7_method_26_code 39 = .ok (.iload_n 3, 1) := by decide +kernel
theorem d_R_setsOut_40 : decode prog_7_method_26_code 40 = .ok (.iconst 0, 1) := by decide +kernel
theorem d_R_setsOut_41 : decode prog_7_method_26_code 41 = .ok (.invokestatic 88, 3) := by decide +kernel
theorem d_R_setsOut_44 : decode prog_7_method_26_code 44 = .ok (.iload_n 1, 1) := by decide +kernel
theorem d_R_setsOut_45 : decode prog_7_method_26_code 45 = .ok (.iastore, 1) := by decide +kernel
theorem d_R_setsOut_46 : decode prog_7_method_26_code 46 = .ok (.aload_n 0, 1) := by decide +kernel
theorem d_R_setsOut_47 : decode prog_7_method_26_code 47 = .ok (.getfield 9, 3) := by decide +kernel
theorem d_R_setsOut_50 : decode prog_7_method_26_code 50 = .ok (.iload_n 3, 1) := by decide +kernel
theorem d_R_setsOut_51 : decode prog_7_method_26_code 51 = .ok (.iconst 1, 1) := by decide +kernel
theorem d_R_setsOut_52 : decode prog_7_method_26_code 52 = .ok (.invokestatic 88, 3) := by decide +kernel
theorem d_R_setsOut_55 : decode prog_7_method_26_code 55 = .ok (.iload_n 2, 1) := by decide +kernel
theorem d_R_setsOut_56 : decode prog_7_method_26_code 56 = .ok (.iastore, 1) := by decide +kernel
theorem d_R_setsOut_57 : decode prog_7_method_26_code 57 = .ok (.aload_n 0, 1) := by decide +kernel
theorem d_R_setsOut_58 : decode prog_7_method_26_code 58 = .ok (.getfield 9, 3) := by decide +kernel
theorem d_R_setsOut_61 : decode prog_7_method_26_code 61 = .ok (.iload_n 3, 1) := by decide +kernel
theorem d_R_setsOut_62 : decode prog_7_method_26_code 62 = .ok (.iconst 2, 1) := by decide +kernel
theorem d_R_setsOut_63 : decode prog_7_method_26_code 63 = .ok (.invokestatic 88, 3) := by decide +kernel
theorem d_R_setsOut_66 : decode prog_7_method_26_code 66 = .ok (.iconst 2, 1) := by decide +kernel
theorem d_R_setsOut_67 : decode prog_7_method_26_code 67 = .ok (.iastore, 1) := by decide +kernel
theorem d_R_setsOut_68 : decode prog_7_method_26_code 68 = .ok (.aload_n 0, 1) := by decide +kernel
theorem d_R_setsOut_69 : decode prog_7_method_26_code 69 = .ok (.getfield 9, 3) := by decide +kernel
theorem d_R_setsOut_72 : decode prog_7_method_26_code 72 = .ok (.iconst 3, 1) := by decide +kernel
theorem d_R_setsOut_73 : decode prog_7_method_26_code 73 = .ok (.dup2, 1) := by decide +kernel
theorem d_R_setsOut_74 : decode prog_7_method_26_code 74 = .ok (.iaload, 1) := by decide +kernel
theorem d_R_setsOut_75 : decode prog_7_method_26_code 75 = .ok (.iconst 1, 1) := by decide +kernel
theorem d_R_setsOut_76 : decode prog_7_method_26_code 76 = .ok (.iadd, 1) := by decide +kernel
theorem d_R_setsOut_77 : decode prog_7_method_26_code 77 = .ok (.iastore, 1) := by decide +kernel
theorem d_R_setsOut_78 : decode prog_7_method_26_code 78 = .ok (.iload_n 3, 1) := by decide +kernel
theorem d_R_setsOut_79 : decode prog_7_method_26_code 79 = .ok (.ireturn, 1) := by decide +kernel
theorem d_R_clear_0 : decode prog_7_method_28_code 0 = .ok (.aload_n 0, 1) := by decide +kernel
theorem d_R_clear_1 : decode prog_7_method_28_code 1 = .ok (.iload_n 1, 1) := by decide +kernel
theorem d_R_clear_2 : decode prog_7_method_28_code 2 = .ok (.iconst 0, 1) := by decide +kernel
theorem d_R_clear_3 : decode prog_7_method_28_code 3 = .ok (.invokevirtual 104, 3) := by decide +kernel
theorem d_R_clear_6 : decode prog_7_method_28_code 6 = .ok (.tableswitch 53 1 6 #[38, 44, 47, 49, 51, 41], 38) := by decide +kernel
theorem d_R_clear_44 : decode prog_7_method_28_code 44 = .ok (.bipush 15, 2) := by decide +kernel
theorem d_R_clear_46 : decode prog_7_method_28_code 46 = .ok (.ireturn, 1) := by decide +kernel
theorem d_R_clear_47 : decode prog_7_method_28_code 47 = .ok (.bipush 7, 2) := by decide +kernel
theorem d_R_clear_49 : decode prog_7_method_28_code 49 = .ok (.ireturn, 1) := by decide +kernel
theorem d_R_clear_50 : decode prog_7_method_28_code 50 = .ok (.bipush 6, 2) := by decide +kernel
theorem d_R_clear_52 : decode prog_7_method_28_code 52 = .ok (.ireturn, 1) := by decide +kernel
theorem d_R_clear_53 : decode prog_7_method_28_code 53 = .ok (.iconst 3, 1) := by decide +kernel
theorem d_R_clear_54 : decode prog_7_method_28_code 54 = .ok (.ireturn, 1) := by decide +kernel
theorem d_R_clear_55 : decode prog_7_method_28_code 55 = .ok (.iconst 2, 1) := by decide +kernel
theorem d_R_clear_56 : decode prog_7_method_28_code 56 = .ok (.ireturn, 1) := by decide +kernel
theorem d_R_clear_57 : decode prog_7_method_28_code 57 = .ok (.iconst 0, 1) := by decide +kernel
theorem d_R_clear_58 : decode prog_7_method_28_code 58 = .ok (.ireturn, 1) := by decide +kernel
theorem d_R_clear_59 : decode prog_7_method_28_code 59 = .ok (.iconst 4, 1) := by decide +kernel
theorem d_R_clear_60 : decode prog_7_method_28_code 60 = .ok (.ireturn, 1) := by decide +kernel
theorem d_R_dim_0 : decode prog_7_method_29_code 0 = .ok (.aload_n 0, 1) := by decide +kernel
theorem d_R_dim_1 : decode prog_7_method_29_code 1 = .ok (.iload_n 1, 1) := by decide +kernel
theorem d_R_dim_2 : decode prog_7_method_29_code 2 = .ok (.iconst 0, 1) := by decide +kernel
theorem d_R_dim_3 : decode prog_7_method_29_code 3 = .ok (.invokevirtual 104, 3) := by decide +kernel
theorem d_R_dim_6 : decode prog_7_method_29_code 6 = .ok (.tableswitch 69 1 6 #[38, 38, 69, 51, 67, 40], 38) := by decide +kernel
theorem d_R_dim_44 : decode prog_7_method_29_code 44 = .ok (.iconst 1, 1) := by decide +kernel
theorem d_R_dim_45 : decode prog_7_method_29_code 45 = .ok (.ireturn, 1) := by decide +kernel
theorem d_R_dim_46 : decode prog_7_method_29_code 46 = .ok (.iconst 1, 1) := by decide +kernel
theorem d_R_dim_47 : decode prog_7_method_29_code 47 = .ok (.aload_n 0, 1) := by decide +kernel
theorem d_R_dim_48 : decode prog_7_method_29_code 48 = .ok (.getfield 9, 3) := by decide +kernel
theorem d_R_dim_51 : decode prog_7_method_29_code 51 = .ok (.iconst 0, 1) := by decide +kernel
theorem d_R_dim_52 : decode prog_7_method_29_code 52 = .ok (.iaload, 1) := by decide +kernel
theorem d_R_dim_53 : decode prog_7_method_29_code 53 = .ok (.iconst 2, 1) := by decide +kernel
theorem d_R_dim_54 : decode prog_7_method_29_code 54 = .ok (.irem, 1) := by decide +kernel
theorem d_R_dim_55 : decode prog_7_method_29_code 55 = .ok (.iadd, 1) := by decide +kernel
theorem d_R_dim_56 : decode prog_7_method_29_code 56 = .ok (.ireturn, 1) := by decide +kernel
theorem d_R_dim_57 : decode prog_7_method_29_code 57 = .ok (.aload_n 0, 1) := by decide +kernel
theorem d_R_dim_58 : decode prog_7_method_29_code 58 = .ok (.iload_n 1, 1) := by decide +kernel
theorem d_R_dim_59 : decode prog_7_method_29_code 59 = .ok (.iconst 2, 1) := by decide +kernel
theorem d_R_dim_60 : decode prog_7_method_29_code 60 = .ok (.invokevirtual 104, 3) := by decide +kernel
theorem d_R_dim_63 : decode prog_7_method_29_code 63 = .ok (.iconst 3, 1) := by decide +kernel
theorem d_R_dim_64 : decode prog_7_method_29_code 64 = .ok (.if_icmp .lt 7, 3) := by decide +kernel
theorem d_R_dim_67 : decode prog_7_method_29_code 67 = .ok (.iconst 2, 1) := by decide +kernel
theorem d_R_dim_68 : decode prog_7_method_29_code 68 = .ok (.goto 4, 3) := by decide +kernel
theorem d_R_dim_71 : decode prog_7_method_29_code 71 = .ok (.iconst 0, 1) := by decide +kernel
theorem d_R_dim_72 : decode prog_7_method_29_code 72 = .ok (.ireturn, 1) := by decide +kernel
theorem d_R_dim_73 : decode prog_7_method_29_code 73 = .ok (.iconst 5, 1) := by decide +kernel
theorem d_R_dim_74 : decode prog_7_method_29_code 74 = .ok (.ireturn, 1) := by decide +kernel
theorem d_R_dim_75 : decode prog_7_method_29_code 75 = .ok (.iconst 0, 1) := by decide +kernel
theorem d_R_dim_76 : decode prog_7_method_29_code 76 = .ok (.ireturn, 1) := by decide +kernel
theorem d_R_moves_0 : decode prog_7_method_30_code 0 = .ok (.aload_n 0, 1) := by decide +kernel
theorem d_R_moves_1 : decode prog_7_method_30_code 1 = .ok (.getfield 9, 3) := by decide +kernel
theorem d_R_moves_4 : decode prog_7_method_30_code 4 = .ok (.iconst 0, 1) := by decide +kernel
theorem d_R_moves_5 : decode prog_7_method_30_code 5 = .ok (.iaload, 1) := by decide +kernel
theorem d_R_moves_6 : decode prog_7_method_30_code 6 = .ok (.iconst 3, 1) := by decide +kernel
theorem d_R_moves_7 : decode prog_7_method_30_code 7 = .ok (.irem, 1) := by decide +kernel
theorem d_R_moves_8 : decode prog_7_method_30_code 8 = .ok (.ifCond .ne 7, 3) := by decide +kernel
theorem d_R_moves_11 : decode prog_7_method_30_code 11 = .ok (.iconst 1, 1) := by decide +kernel
theorem d_R_moves_12 : decode prog_7_method_30_code 12 = .ok (.goto 4, 3) := by decide +kernel
theorem d_R_moves_15 : decode prog_7_method_30_code 15 = .ok (.iconst 0, 1) := by decide +kernel
theorem d_R_moves_16 : decode prog_7_method_30_code 16 = .ok (.istore_n 2, 1) := by decide +kernel
theorem d_R_moves_17 : decode prog_7_method_30_code 17 = .ok (.aload_n 0, 1) := by decide +kernel
theorem d_R_moves_18 : decode prog_7_method_30_code 18 = .ok (.iload_n 1, 1) := by decide +kernel
theorem d_R_moves_19 : decode prog_7_method_30_code 19 = .ok (.iconst 0, 1) := by decide +kernel
theorem d_R_moves_20 : decode prog_7_method_30_code 20 = .ok (.invokevirtual 104, 3) := by decide +kernel
theorem d_R_moves_23 : decode prog_7_method_30_code 23 = .ok (.tableswitch 37 2 4 #[25, 27, 31], 25) := by decide +kernel
theorem d_R_moves_48 : decode prog_7_method_30_code 48 = .ok (.iload_n 2, 1) := by decide +kernel
theorem d_R_moves_49 : decode prog_7_method_30_code 49 = .ok (.ireturn, 1) := by decide +kernel
theorem d_R_moves_50 : decode prog_7_method_30_code 50 = .ok (.iload_n 2, 1) := by decide +kernel
theorem d_R_moves_51 : decode prog_7_method_30_code 51 = .ok (.iconst 1, 1) := by decide +kernel
theorem d_R_moves_52 : decode prog_7_method_30_code 52 = .ok (.iadd, 1) := by decide +kernel
theorem d_R_moves_53 : decode prog_7_method_30_code 53 = .ok (.ireturn, 1) := by decide +kernel
theorem d_R_moves_54 : decode prog_7_method_30_code 54 = .ok (.iconst 2, 1) := by decide +kernel
theorem d_R_moves_55 : decode prog_7_method_30_code 55 = .ok (.iload_n 2, 1) := by decide +kernel
theorem d_R_moves_56 : decode prog_7_method_30_code 56 = .ok (.iconst 1, 1) := by decide +kernel
theorem d_R_moves_57 : decode prog_7_method_30_code 57 = .ok (.iadd, 1) := by decide +kernel
theorem d_R_moves_58 : decode prog_7_method_30_code 58 = .ok (.imul, 1) := by decide +kernel
theorem d_R_moves_59 : decode prog_7_method_30_code 59 = .ok (.ireturn, 1) := by decide +kernel
theorem d_R_moves_60 : decode prog_7_method_30_code 60 = .ok (.iconst 0, 1) := by decide +kernel
theorem d_R_moves_61 : decode prog_7_method_30_code 61 = .ok (.ireturn, 1) := by decide +kernel
theorem d_R_touches_0 : decode prog_7_method_31_code 0 = .ok (.aload_n 0, 1) := by decide +kernel
theorem d_R_touches_1 : decode prog_7_method_31_code 1 = .ok (.iload_n 1, 1) := by decide +kernel
theorem d_R_touches_2 : decode prog_7_method_31_code 2 = .ok (.iconst 0, 1) := by decide +kernel
theorem d_R_touches_3 : decode prog_7_method_31_code 3 = .ok (.invokevirtual 104, 3) := by decide +kernel
theorem d_R_touches_6 : decode prog_7_method_31_code 6 = .ok (.tableswitch 52 1 6 #[38, 52, 40, 42, 38, 38], 38) := by decide +kernel
theorem d_R_touches_44 : decode prog_7_method_31_code 44 = .ok (.iconst 0, 1) := by decide +kernel
theorem d_R_touches_45 : decode prog_7_method_31_code 45 = .ok (.ireturn, 1) := by decide +kernel
theorem d_R_touches_46 : decode prog_7_method_31_code 46 = .ok (.iconst 1, 1) := by decide +kernel
theorem d_R_touches_47 : decode prog_7_method_31_code 47 = .ok (.ireturn, 1) := by decide +kernel
theorem d_R_touches_48 : decode prog_7_method_31_code 48 = .ok (.iload_n 2, 1) := by decide +kernel
theorem d_R_touches_49 : decode prog_7_method_31_code 49 = .ok (.ifCond .ne 7, 3) := by decide +kernel
theorem d_R_touches_52 : decode prog_7_method_31_code 52 = .ok (.iconst 1, 1) := by decide +kernel
theorem d_R_touches_53 : decode prog_7_method_31_code 53 = .ok (.goto 4, 3) := by decide +kernel
theorem d_R_touches_56 : decode prog_7_method_31_code 56 = .ok (.iconst 0, 1) := by decide +kernel
theorem d_R_touches_57 : decode prog_7_method_31_code 57 = .ok (.ireturn, 1) := by decide +kernel
theorem d_R_touches_58 : decode prog_7_method_31_code 58 = .ok (.iload_n 2, 1) := by decide +kernel
theorem d_R_touches_59 : decode prog_7_method_31_code 59 = .ok (.ireturn, 1) := by decide +kernel
theorem d_R_told_0 : decode prog_7_method_32_code 0 = .ok (.iload_n 2, 1) := by decide +kernel
theorem d_R_told_1 : decode prog_7_method_32_code 1 = .ok (.tableswitch 45 3 5 #[27, 33, 39], 27) := by decide +kernel
theorem d_R_told_46 : decode prog_7_method_32_code 46 = .ok (.aload_n 0, 1) := by decide +kernel
theorem d_R_told_47 : decode prog_7_method_32_code 47 = .ok (.iload_n 1, 1) := by decide +kernel
theorem d_R_told_48 : decode prog_7_method_32_code 48 = .ok (.iload_n 2, 1) := by decide +kernel
theorem d_R_told_49 : decode prog_7_method_32_code 49 = .ok (.invokevirtual 104, 3) := by decide +kernel
theorem d_R_told_52 : decode prog_7_method_32_code 52 = .ok (.ireturn, 1) := by decide +kernel
theorem d_R_told_28 : decode prog_7_method_32_code 28 = .ok (.aload_n 0, 1) := by decide +kernel
theorem d_R_told_29 : decode prog_7_method_32_code 29 = .ok (.iload_n 1, 1) := by decide +kernel
theorem d_R_told_30 : decode prog_7_method_32_code 30 = .ok (.invokevirtual 107, 3) := by decide +kernel
theorem d_R_told_33 : decode prog_7_method_32_code 33 = .ok (.ireturn, 1) := by decide +kernel
theorem d_R_told_34 : decode prog_7_method_32_code 34 = .ok (.aload_n 0, 1) := by decide +kernel
theorem d_R_told_35 : decode prog_7_method_32_code 35 = .ok (.iload_n 1, 1) := by decide +kernel
theorem d_R_told_36 : decode prog_7_method_32_code 36 = .ok (.invokevirtual 110, 3) := by decide +kernel
theorem d_R_told_39 : decode prog_7_method_32_code 39 = .ok (.ireturn, 1) := by decide +kernel
theorem d_R_told_40 : decode prog_7_method_32_code 40 = .ok (.aload_n 0, 1) := by decide +kernel
theorem d_R_told_41 : decode prog_7_method_32_code 41 = .ok (.iload_n 1, 1) := by decide +kernel
theorem d_R_told_42 : decode prog_7_method_32_code 42 = .ok (.invokevirtual 113, 3) := by decide +kernel
theorem d_R_told_45 : decode prog_7_method_32_code 45 = .ok (.ireturn, 1) := by decide +kernel
theorem d_R_doesCare_0 : decode prog_7_method_38_code 0 = .ok (.aload_n 0, 1) := by decide +kernel
theorem d_R_doesCare_1 : decode prog_7_method_38_code 1 = .ok (.iload_n 1, 1) := by decide +kernel
theorem d_R_doesCare_2 : decode prog_7_method_38_code 2 = .ok (.iconst 3, 1) := by decide +kernel
theorem d_R_doesCare_3 : decode prog_7_method_38_code 3 = .ok (.invokevirtual 125, 3) := by decide +kernel
theorem d_R_doesCare_6 : decode prog_7_method_38_code 6 = .ok (.iload_n 2, 1) := by decide +kernel
theorem d_R_doesCare_7 : decode prog_7_method_38_code 7 = .ok (.ishr, 1) := by decide +kernel
theorem d_R_doesCare_8 : decode prog_7_method_38_code 8 = .ok (.iconst 1, 1) := by decide +kernel
theorem d_R_doesCare_9 : decode prog_7_method_38_code 9 = .ok (.iand, 1) := by decide +kernel
theorem d_R_doesCare_10 : decode prog_7_method_38_code 10 = .ok (.iconst 1, 1) := by decide +kernel
theorem d_R_doesCare_11 : decode prog_7_method_38_code 11 = .ok (.if_icmp .ne 7, 3) := by decide +kernel
theorem d_R_doesCare_14 : decode prog_7_method_38_code 14 = .ok (.iconst 1, 1) := by decide +kernel
theorem d_R_doesCare_15 : decode prog_7_method_38_code 15 = .ok (.goto 4, 3) := by decide +kernel
theorem d_R_doesCare_18 : decode prog_7_method_38_code 18 = .ok (.iconst 0, 1) := by decide +kernel
theorem d_R_doesCare_19 : decode prog_7_method_38_code 19 = .ok (.ireturn, 1) := by decide +kernel
theorem d_R_doesSee_0 : decode prog_7_method_39_code 0 = .ok (.aload_n 0, 1) := by decide +kernel
theorem d_R_doesSee_1 : decode prog_7_method_39_code 1 = .ok (.iload_n 1, 1) := by decide +kernel
theorem d_R_doesSee_2 : decode prog_7_method_39_code 2 = .ok (.iconst 0, 1) := by decide +kernel
theorem d_R_doesSee_3 : decode prog_7_method_39_code 3 = .ok (.invokevirtual 125, 3) := by decide +kernel
theorem d_R_doesSee_6 : decode prog_7_method_39_code 6 = .ok (.aload_n 0, 1) := by decide +kernel
theorem d_R_doesSee_7 : decode prog_7_method_39_code 7 = .ok (.iload_n 2, 1) := by decide +kernel
theorem d_R_doesSee_8 : decode prog_7_method_39_code 8 = .ok (.iconst 1, 1) := by decide +kernel
theorem d_R_doesSee_9 : decode prog_7_method_39_code 9 = .ok (.invokevirtual 104, 3) := by decide +kernel
theorem d_R_doesSee_12 : decode prog_7_method_39_code 12 = .ok (.isub, 1) := by decide +kernel
theorem d_R_doesSee_13 : decode prog_7_method_39_code 13 = .ok (.invokestatic 138, 3) := by decide +kernel
theorem d_R_doesSee_16 : decode prog_7_method_39_code 16 = .ok (.istore_n 3, 1) := by decide +kernel
theorem d_R_doesSee_17 : decode prog_7_method_39_code 17 = .ok (.iload_n 3, 1) := by decide +kernel
theorem d_R_doesSee_18 : decode prog_7_method_39_code 18 = .ok (.aload_n 0, 1) := by decide +kernel
theorem d_R_doesSee_19 : decode prog_7_method_39_code 19 = .ok (.iload_n 1, 1) := by decide +kernel
theorem d_R_doesSee_20 : decode prog_7_method_39_code 20 = .ok (.iload_n 2, 1) := by decide +kernel
theorem d_R_doesSee_21 : decode prog_7_method_39_code 21 = .ok (.invokevirtual 143, 3) := by decide +kernel
theorem d_R_doesSee_24 : decode prog_7_method_39_code 24 = .ok (.ifCond .eq 11, 3) := by decide +kernel
theorem d_R_doesSee_27 : decode prog_7_method_39_code 27 = .ok (.aload_n 0, 1) := by decide +kernel
theorem d_R_doesSee_28 : decode prog_7_method_39_code 28 = .ok (.iload_n 2, 1) := by decide +kernel
theorem d_R_doesSee_29 : decode prog_7_method_39_code 29 = .ok (.invokevirtual 110, 3) := by decide +kernel
theorem d_R_doesSee_32 : decode prog_7_method_39_code 32 = .ok (.goto 8, 3) := by decide +kernel
theorem d_R_doesSee_35 : decode prog_7_method_39_code 35 = .ok (.aload_n 0, 1) := by decide +kernel
theorem d_R_doesSee_36 : decode prog_7_method_39_code 36 = .ok (.iload_n 2, 1) := by decide +kernel
theorem d_R_doesSee_37 : decode prog_7_method_39_code 37 = .ok (.invokevirtual 107, 3) := by decide +kernel
theorem d_R_doesSee_40 : decode prog_7_method_39_code 40 = .ok (.if_icmp .gt 7, 3) := by decide +kernel
theorem d_R_doesSee_43 : decode prog_7_method_39_code 43 = .ok (.iconst 1, 1) := by decide +kernel
theorem d_R_doesSee_44 : decode prog_7_method_39_code 44 = .ok (.goto 4, 3) := by decide +kernel
theorem d_R_doesSee_47 : decode prog_7_method_39_code 47 = .ok (.iconst 0, 1) := by decide +kernel
theorem d_R_doesSee_48 : decode prog_7_method_39_code 48 = .ok (.ireturn, 1) := by decide +kernel
theorem d_R_seers_0 : decode prog_7_method_41_code 0 = .ok (.iconst 0, 1) := by decide +kernel
theorem d_R_seers_1 : decode prog_7_method_41_code 1 = .ok (.istore_n 2, 1) := by decide +kernel
theorem d_R_seers_2 : decode prog_7_method_41_code 2 = .ok (.iconst 0, 1) := by decide +kernel
theorem d_R_seers_3 : decode prog_7_method_41_code 3 = .ok (.istore_n 3, 1) := by decide +kernel
theorem d_R_seers_4 : decode prog_7_method_41_code 4 = .ok (.iload_n 3, 1) := by decide +kernel
theorem d_R_seers_5 : decode prog_7_method_41_code 5 = .ok (.aload_n 0, 1) := by decide +kernel
theorem d_R_seers_6 : decode prog_7_method_41_code 6 = .ok (.getfield 9, 3) := by decide +kernel
theorem d_R_seers_9 : decode prog_7_method_41_code 9 = .ok (.iconst 3, 1) := by decide +kernel
theorem d_R_seers_10 : decode prog_7_method_41_code 10 = .ok (.iaload, 1) := by decide +kernel
theorem d_R_seers_11 : decode prog_7_method_41_code 11 = .ok (.if_icmp .ge 28, 3) := by decide +kernel
theorem d_R_seers_14 : decode prog_7_method_41_code 14 = .ok (.iload_n 2, 1) := by decide +kernel
theorem d_R_seers_15 : decode prog_7_method_41_code 15 = .ok (.aload_n 0, 1) := by decide +kernel
theorem d_R_seers_16 : decode prog_7_method_41_code 16 = .ok (.iload_n 3, 1) := by decide +kernel
theorem d_R_seers_17 : decode prog_7_method_41_code 17 = .ok (.iload_n 1, 1) := by decide +kernel
theorem d_R_seers_18 : decode prog_7_method_41_code 18 = .ok (.invokevirtual 146, 3) := by decide +kernel
theorem d_R_seers_21 : decode prog_7_method_41_code 21 = .ok (.ifCond .eq 9, 3) := by decide +kernel
theorem d_R_seers_24 : decode prog_7_method_41_code 24 = .ok (.iconst 1, 1) := by decide +kernel
theorem d_R_seers_25 : decode prog_7_method_41_code 25 = .ok (.iload_n 3, 1) := by decide +kernel
theorem d_R_seers_26 : decode prog_7_method_41_code 26 = .ok (.ishl, 1) := by decide +kernel
theorem d_R_seers_27 : decode prog_7_method_41_code 27 = .ok (.goto 4, 3) := by decide +kernel
theorem d_R_seers_30 : decode prog_7_method_41_code 30 = .ok (.iconst 0, 1) := by decide +kernel
theorem d_R_seers_31 : decode prog_7_method_41_code 31 = .ok (.ior, 1) := by decide +kernel
theorem d_R_seers_32 : decode prog_7_method_41_code 32 = .ok (.istore_n 2, 1) := by decide +kernel
theorem d_R_seers_33 : decode prog_7_method_41_code 33 = .ok (.iinc 3 1, 3) := by decide +kernel
theorem d_R_seers_36 : decode prog_7_method_41_code 36 = .ok (.goto (-32), 3) := by decide +kernel
theorem d_R_seers_39 : decode prog_7_method_41_code 39 = .ok (.iload_n 2, 1) := by decide +kernel
theorem d_R_seers_40 : decode prog_7_method_41_code 40 = .ok (.ireturn, 1) := by decide +kernel
theorem d_R_isGuided_0 : decode prog_7_method_43_code 0 = .ok (.aload_n 0, 1) := by decide +kernel
theorem d_R_isGuided_1 : decode prog_7_method_43_code 1 = .ok (.iload_n 1, 1) := by decide +kernel
theorem d_R_isGuided_2 : decode prog_7_method_43_code 2 = .ok (.iload_n 2, 1) := by decide +kernel
theorem d_R_isGuided_3 : decode prog_7_method_43_code 3 = .ok (.invokevirtual 146, 3) := by decide +kernel
theorem d_R_isGuided_6 : decode prog_7_method_43_code 6 = .ok (.istore_n 3, 1) := by decide +kernel
theorem d_R_isGuided_7 : decode prog_7_method_43_code 7 = .ok (.iconst 0, 1) := by decide +kernel
theorem d_R_isGuided_8 : decode prog_7_method_43_code 8 = .ok (.istore 4, 2) := by decide +kernel
theorem d_R_isGuided_10 : decode prog_7_method_43_code 10 = .ok (.iload 4, 2) := by decide +kernel
theorem d_R_isGuided_12 : decode prog_7_method_43_code 12 = .ok (.aload_n 0, 1) := by decide +kernel
theorem d_R_isGuided_13 : decode prog_7_method_43_code 13 = .ok (.getfield 9, 3) := by decide +kernel
theorem d_R_isGuided_16 : decode prog_7_method_43_code 16 = .ok (.iconst 3, 1) := by decide +kernel
theorem d_R_isGuided_17 : decode prog_7_method_43_code 17 = .ok (.iaload, 1) := by decide +kernel
theorem d_R_isGuided_18 : decode prog_7_method_43_code 18 = .ok (.if_icmp .ge 51, 3) := by decide +kernel
theorem d_R_isGuided_21 : decode prog_7_method_43_code 21 = .ok (.iload_n 3, 1) := by decide +kernel
theorem d_R_isGuided_22 : decode prog_7_method_43_code 22 = .ok (.ifCond .ne 35, 3) := by decide +kernel
theorem d_R_isGuided_25 : decode prog_7_method_43_code 25 = .ok (.iload 4, 2) := by decide +kernel
theorem d_R_isGuided_27 : decode prog_7_method_43_code 27 = .ok (.iload_n 1, 1) := by decide +kernel
theorem d_R_isGuided_28 : decode prog_7_method_43_code 28 = .ok (.if_icmp .eq 33, 3) := by decide +kernel
theorem d_R_isGuided_31 : decode prog_7_method_43_code 31 = .ok (.aload_n 0, 1) := by decide +kernel
theorem d_R_isGuided_32 : decode prog_7_method_43_code 32 = .ok (.iload 4, 2) := by decide +kernel
theorem d_R_isGuided_34 : decode prog_7_method_43_code 34 = .ok (.iconst 0, 1) := by decide +kernel
theorem d_R_isGuided_35 : decode prog_7_method_43_code 35 = .ok (.invokevirtual 125, 3) := by decide +kernel
theorem d_R_isGuided_38 : decode prog_7_method_43_code 38 = .ok (.aload_n 0, 1) := by decide +kernel
theorem d_R_isGuided_39 : decode prog_7_method_43_code 39 = .ok (.iload_n 1, 1) := by decide +kernel
theorem d_R_isGuided_40 : decode prog_7_method_43_code 40 = .ok (.iconst 0, 1) := by decide +kernel
theorem d_R_isGuided_41 : decode prog_7_method_43_code 41 = .ok (.invokevirtual 125, 3) := by decide +kernel
theorem d_R_isGuided_44 : decode prog_7_method_43_code 44 = .ok (.if_icmp .ne 17, 3) := by decide +kernel
theorem d_R_isGuided_47 : decode prog_7_method_43_code 47 = .ok (.aload_n 0, 1) := by decide +kernel
theorem d_R_isGuided_48 : decode prog_7_method_43_code 48 = .ok (.iload 4, 2) := by decide +kernel
theorem d_R_isGuided_50 : decode prog_7_method_43_code 50 = .ok (.iload_n 2, 1) := by decide +kernel
theorem d_R_isGuided_51 : decode prog_7_method_43_code 51 = .ok (.invokevirtual 146, 3) := by decide +kernel
theorem d_R_isGuided_54 : decode prog_7_method_43_code 54 = .ok (.ifCond .eq 7, 3) := by decide +kernel
theorem d_R_isGuided_57 : decode prog_7_method_43_code 57 = .ok (.iconst 1, 1) := by decide +kernel
theorem d_R_isGuided_58 : decode prog_7_method_43_code 58 = .ok (.goto 4, 3) := by decide +kernel
theorem d_R_isGuided_61 : decode prog_7_method_43_code 61 = .ok (.iconst 0, 1) := by decide +kernel
theorem d_R_isGuided_62 : decode prog_7_method_43_code 62 = .ok (.istore_n 3, 1) := by decide +kernel
theorem d_R_isGuided_63 : decode prog_7_method_43_code 63 = .ok (.iinc 4 1, 3) := by decide +kernel
theorem d_R_isGuided_66 : decode prog_7_method_43_code 66 = .ok (.goto (-56), 3) := by decide +kernel
theorem d_R_isGuided_69 : decode prog_7_method_43_code 69 = .ok (.iload_n 3, 1) := by decide +kernel
theorem d_R_isGuided_70 : decode prog_7_method_43_code 70 = .ok (.ireturn, 1) := by decide +kernel
theorem d_R_more_0 : decode prog_7_method_44_code 0 = .ok (.aload_n 0, 1) := by decide +kernel
theorem d_R_more_1 : decode prog_7_method_44_code 1 = .ok (.getfield 9, 3) := by decide +kernel
theorem d_R_more_4 : decode prog_7_method_44_code 4 = .ok (.iload_n 1, 1) := by decide +kernel
theorem d_R_more_5 : decode prog_7_method_44_code 5 = .ok (.iload_n 3, 1) := by decide +kernel
theorem d_R_more_6 : decode prog_7_method_44_code 6 = .ok (.aload_n 0, 1) := by decide +kernel
theorem d_R_more_7 : decode prog_7_method_44_code 7 = .ok (.getfield 9, 3) := by decide +kernel
theorem d_R_more_10 : decode prog_7_method_44_code 10 = .ok (.iload_n 1, 1) := by decide +kernel
theorem d_R_more_11 : decode prog_7_method_44_code 11 = .ok (.iaload, 1) := by decide +kernel
theorem d_R_more_12 : decode prog_7_method_44_code 12 = .ok (.iload_n 2, 1) := by decide +kernel
theorem d_R_more_13 : decode prog_7_method_44_code 13 = .ok (.iadd, 1) := by decide +kernel
theorem d_R_more_14 : decode prog_7_method_44_code 14 = .ok (.invokestatic 152, 3) := by decide +kernel
theorem d_R_more_17 : decode prog_7_method_44_code 17 = .ok (.iastore, 1) := by decide +kernel
theorem d_R_more_18 : decode prog_7_method_44_code 18 = .ok (.return_, 1) := by decide +kernel
theorem d_R_cares_0 : decode prog_7_method_45_code 0 = .ok (.aload_n 0, 1) := by decide +kernel
theorem d_R_cares_1 : decode prog_7_method_45_code 1 = .ok (.getfield 9, 3) := by decide +kernel
theorem d_R_cares_4 : decode prog_7_method_45_code 4 = .ok (.iload_n 1, 1) := by decide +kernel
theorem d_R_cares_5 : decode prog_7_method_45_code 5 = .ok (.iconst 3, 1) := by decide +kernel
theorem d_R_cares_6 : decode prog_7_method_45_code 6 = .ok (.invokestatic 88, 3) := by decide +kernel
theorem d_R_cares_9 : decode prog_7_method_45_code 9 = .ok (.dup2, 1) := by decide +kernel
theorem d_R_cares_10 : decode prog_7_method_45_code 10 = .ok (.iaload, 1) := by decide +kernel
theorem d_R_cares_11 : decode prog_7_method_45_code 11 = .ok (.iconst 1, 1) := by decide +kernel
theorem d_R_cares_12 : decode prog_7_method_45_code 12 = .ok (.iload_n 2, 1) := by decide +kernel
theorem d_R_cares_13 : decode prog_7_method_45_code 13 = .ok (.ishl, 1) := by decide +kernel
theorem d_R_cares_14 : decode prog_7_method_45_code 14 = .ok (.iconst (-1), 1) := by decide +kernel
theorem d_R_cares_15 : decode prog_7_method_45_code 15 = .ok (.ixor, 1) := by decide +kernel
theorem d_R_cares_16 : decode prog_7_method_45_code 16 = .ok (.iand, 1) := by decide +kernel
theorem d_R_cares_17 : decode prog_7_method_45_code 17 = .ok (.iastore, 1) := by decide +kernel
theorem d_R_cares_18 : decode prog_7_method_45_code 18 = .ok (.aload_n 0, 1) := by decide +kernel
theorem d_R_cares_19 : decode prog_7_method_45_code 19 = .ok (.getfield 9, 3) := by decide +kernel
theorem d_R_cares_22 : decode prog_7_method_45_code 22 = .ok (.iload_n 1, 1) := by decide +kernel
theorem d_R_cares_23 : decode prog_7_method_45_code 23 = .ok (.iconst 3, 1) := by decide +kernel
theorem d_R_cares_24 : decode prog_7_method_45_code 24 = .ok (.invokestatic 88, 3) := by decide +kernel
theorem d_R_cares_27 : decode prog_7_method_45_code 27 = .ok (.dup2, 1) := by decide +kernel
theorem d_R_cares_28 : decode prog_7_method_45_code 28 = .ok (.iaload, 1) := by decide +kernel
theorem d_R_cares_29 : decode prog_7_method_45_code 29 = .ok (.iload_n 3, 1) := by decide +kernel
theorem d_R_cares_30 : decode prog_7_method_45_code 30 = .ok (.ifCond .eq 9, 3) := by decide +kernel
theorem d_R_cares_33 : decode prog_7_method_45_code 33 = .ok (.iconst 1, 1) := by decide +kernel
theorem d_R_cares_34 : decode prog_7_method_45_code 34 = .ok (.iload_n 2, 1) := by decide +kernel
theorem d_R_cares_35 : decode prog_7_method_45_code 35 = .ok (.ishl, 1) := by decide +kernel
theorem d_R_cares_36 : decode prog_7_method_45_code 36 = .ok (.goto 4, 3) := by decide +kernel
theorem d_R_cares_39 : decode prog_7_method_45_code 39 = .ok (.iconst 0, 1) := by decide +kernel
theorem d_R_cares_40 : decode prog_7_method_45_code 40 = .ok (.ior, 1) := by decide +kernel
theorem d_R_cares_41 : decode prog_7_method_45_code 41 = .ok (.iastore, 1) := by decide +kernel
theorem d_R_cares_42 : decode prog_7_method_45_code 42 = .ok (.return_, 1) := by decide +kernel
set_option maxHeartbeats 1000000 in
set_option maxRecDepth 20000 in
theorem c_R_within (l : Launch) (E : QE) (S : QM) (v lo hi : Int32) : qCI E l y_R_within prog_7_method_3_code 3 .boolean 1 [.int v, .int lo, .int hi] S (b2i (lo ≤ v ∧ v ≤ hi)) S := by
  refine qCI_of (by decide) (Nat.le_of_ble_eq_true rfl) (fun p e s m below meth c ls X hW hl => ?_)
  have hl : lv_has ls 3 [(0, .int v), (1, .int lo), (2, .int hi)] := hl
  refine lv_iload_n X.x X.b d_R_within_0 rfl (lv_at hl 0 rfl) ?_
  refine lv_iload_n X.x X.b d_R_within_1 rfl (lv_at hl 1 rfl) ?_
  refine lv_icmp_lt (tgt := 14) X.x X.b d_R_within_2 (by decide) (fun c2 => ?_) (fun c2 => ?_)
  · refine lv_iconst (v := nI 0) X.x X.b d_R_within_14 (by decide) ?_
    exact q_zret X (by decide) hW ⟨(b2i_f (fun z => Int32.not_lt.mpr z.1 c2)).symm, rfl⟩ d_R_within_15
  · refine lv_iload_n X.x X.b d_R_within_5 rfl (lv_at hl 0 rfl) ?_
    refine lv_iload_n X.x X.b d_R_within_6 rfl (lv_at hl 2 rfl) ?_
    refine lv_icmp_gt (tgt := 14) X.x X.b d_R_within_7 (by decide) (fun c7 => ?_) (fun c7 => ?_)
    · refine lv_iconst (v := nI 0) X.x X.b d_R_within_14 (by decide) ?_
      exact q_zret X (by decide) hW ⟨(b2i_f (fun z => Int32.not_lt.mpr z.2 c7)).symm, rfl⟩ d_R_within_15
    · refine lv_iconst (v := nI 1) X.x X.b d_R_within_10 (by decide) ?_
      refine lv_goto (tgt := 15) X.x X.b d_R_within_11 (by decide) ?_
      exact q_zret X (by decide) hW ⟨(b2i_t ⟨Int32.not_lt.mp c2, Int32.not_lt.mp c7⟩).symm, rfl⟩ d_R_within_15
set_option maxHeartbeats 1000000 in
set_option maxRecDepth 20000 in
theorem c_R_isCell (l : Launch) (E : QE) (S : QM) (x : Int32) : qCI E l y_R_isCell prog_7_method_9_code 1 .boolean 2 [.int x] S (b2i (inR 0 15 x)) S := by
  refine qCI_of (by decide) (Nat.le_of_ble_eq_true rfl) (fun p e s m below meth c ls X hW hl => ?_)
  have hl : lv_has ls 1 [(0, .int x)] := hl
  refine lv_iload_n X.x X.b d_R_isCell_0 rfl (lv_at hl 0 rfl) ?_
  refine lv_iconst (v := nI 0) X.x X.b d_R_isCell_1 (by decide) ?_
  refine lv_bipush (v := nI 15) X.x X.b d_R_isCell_2 (by decide) ?_
  refine q_csi X (c_R_within l E S x (nI 0) (nI 15)) hW ok_R_within mw_757 ⟨by decide, by decide⟩ (As := [.int x, .int (nI 0), .int (nI 15)]) rfl rfl (Nat.le_of_ble_eq_true rfl) (lv := [(0, .int x)]) hl ⟨Nat.le_refl 0, Nat.le_refl 0⟩ d_R_isCell_4 (fun H locs hW => ?_)
  exact q_zret X b2i_z hW ⟨rfl, rfl⟩ d_R_isCell_7
set_option maxHeartbeats 1000000 in
set_option maxRecDepth 20000 in
theorem c_R_isAim (l : Launch) (E : QE) (S : QM) (x : Int32) : qCI E l y_R_isAim prog_7_method_10_code 1 .boolean 2 [.int x] S (b2i (inR 0 7 x)) S := by
  refine qCI_of (by decide) (Nat.le_of_ble_eq_true rfl) (fun p e s m below meth c ls X hW hl => ?_)
  have hl : lv_has ls 1 [(0, .int x)] := hl
  refine lv_iload_n X.x X.b d_R_isAim_0 rfl (lv_at hl 0 rfl) ?_
  refine lv_iconst (v := nI 0) X.x X.b d_R_isAim_1 (by decide) ?_
  refine lv_bipush (v := nI 7) X.x X.b d_R_isAim_2 (by decide) ?_
  refine q_csi X (c_R_within l E S x (nI 0) (nI 7)) hW ok_R_within mw_757 ⟨by decide, by decide⟩ (As := [.int x, .int (nI 0), .int (nI 7)]) rfl rfl (Nat.le_of_ble_eq_true rfl) (lv := [(0, .int x)]) hl ⟨Nat.le_refl 0, Nat.le_refl 0⟩ d_R_isAim_4 (fun H locs hW => ?_)
  exact q_zret X b2i_z hW ⟨rfl, rfl⟩ d_R_isAim_7
set_option maxHeartbeats 1000000 in
set_option maxRecDepth 20000 in
theorem c_R_isSet (l : Launch) (E : QE) (S : QM) (x : Int32) : qCI E l y_R_isSet prog_7_method_11_code 1 .boolean 2 [.int x] S (b2i (inR 0 255 x)) S := by
  refine qCI_of (by decide) (Nat.le_of_ble_eq_true rfl) (fun p e s m below meth c ls X hW hl => ?_)
  have hl : lv_has ls 1 [(0, .int x)] := hl
  refine lv_iload_n X.x X.b d_R_isSet_0 rfl (lv_at hl 0 rfl) ?_
  refine lv_iconst (v := nI 0) X.x X.b d_R_isSet_1 (by decide) ?_
  refine lv_sipush (v := nI 255) X.x X.b d_R_isSet_2 (by decide) ?_
  refine q_csi X (c_R_within l E S x (nI 0) (nI 255)) hW ok_R_within mw_757 ⟨by decide, by decide⟩ (As := [.int x, .int (nI 0), .int (nI 255)]) rfl rfl (Nat.le_of_ble_eq_true rfl) (lv := [(0, .int x)]) hl ⟨Nat.le_refl 0, Nat.le_refl 0⟩ d_R_isSet_5 (fun H locs hW => ?_)
  exact q_zret X b2i_z hW ⟨rfl, rfl⟩ d_R_isSet_8
set_option maxHeartbeats 1000000 in
set_option maxRecDepth 20000 in
theorem c_R_isPace (l : Launch) (E : QE) (S : QM) (x : Int32) : qCI E l y_R_isPace prog_7_method_12_code 1 .boolean 2 [.int x] S (b2i (inR 1 5 x)) S := by
  refine qCI_of (by decide) (Nat.le_of_ble_eq_true rfl) (fun p e s m below meth c ls X hW hl => ?_)
  have hl : lv_has ls 1 [(0, .int x)] := hl
  refine lv_iload_n X.x X.b d_R_isPace_0 rfl (lv_at hl 0 rfl) ?_
  refine lv_iconst (v := nI 1) X.x X.b d_R_isPace_1 (by decide) ?_
  refine lv_iconst (v := nI 5) X.x X.b d_R_isPace_2 (by decide) ?_
  refine q_csi X (c_R_within l E S x (nI 1) (nI 5)) hW ok_R_within mw_757 ⟨by decide, by decide⟩ (As := [.int x, .int (nI 1), .int (nI 5)]) rfl rfl (Nat.le_of_ble_eq_true rfl) (lv := [(0, .int x)]) hl ⟨Nat.le_refl 0, Nat.le_refl 0⟩ d_R_isPace_3 (fun H locs hW => ?_)
  exact q_zret X b2i_z hW ⟨rfl, rfl⟩ d_R_isPace_6
set_option maxHeartbeats 1000000 in
set_option maxRecDepth 20000 in
theorem c_R_isPlace (l : Launch) (E : QE) (S : QM) (x : Int32) : qCI E l y_R_isPlace prog_7_method_13_code 1 .boolean 2 [.int x] S (b2i (inR 0 5 x)) S := by
  refine qCI_of (by decide) (Nat.le_of_ble_eq_true rfl) (fun p e s m below meth c ls X hW hl => ?_)
  have hl : lv_has ls 1 [(0, .int x)] := hl
  refine lv_iload_n X.x X.b d_R_isPlace_0 rfl (lv_at hl 0 rfl) ?_
  refine lv_iconst (v := nI 0) X.x X.b d_R_isPlace_1 (by decide) ?_
  refine lv_iconst (v := nI 5) X.x X.b d_R_isPlace_2 (by decide) ?_
  refine q_csi X (c_R_within l E S x (nI 0) (nI 5)) hW ok_R_within mw_757 ⟨by decide, by decide⟩ (As := [.int x, .int (nI 0), .int (nI 5)]) rfl rfl (Nat.le_of_ble_eq_true rfl) (lv := [(0, .int x)]) hl ⟨Nat.le_refl 0, Nat.le_refl 0⟩ d_R_isPlace_3 (fun H locs hW => ?_)
  exact q_zret X b2i_z hW ⟨rfl, rfl⟩ d_R_isPlace_6
set_option maxHeartbeats 1000000 in
set_option maxRecDepth 20000 in
theorem c_R_isKind (l : Launch) (E : QE) (S : QM) (x : Int32) : qCI E l y_R_isKind prog_7_method_23_code 1 .boolean 2 [.int x] S (b2i (inR 0 6 x)) S := by
  refine qCI_of (by decide) (Nat.le_of_ble_eq_true rfl) (fun p e s m below meth c ls X hW hl => ?_)
  have hl : lv_has ls 1 [(0, .int x)] := hl
  refine lv_iload_n X.x X.b d_R_isKind_0 rfl (lv_at hl 0 rfl) ?_
  refine lv_iconst (v := nI 0) X.x X.b d_R_isKind_1 (by decide) ?_
  refine lv_bipush (v := nI 6) X.x X.b d_R_isKind_2 (by decide) ?_
  refine q_csi X (c_R_within l E S x (nI 0) (nI 6)) hW ok_R_within mw_757 ⟨by decide, by decide⟩ (As := [.int x, .int (nI 0), .int (nI 6)]) rfl rfl (Nat.le_of_ble_eq_true rfl) (lv := [(0, .int x)]) hl ⟨Nat.le_refl 0, Nat.le_refl 0⟩ d_R_isKind_4 (fun H locs hW => ?_)
  exact q_zret X b2i_z hW ⟨rfl, rfl⟩ d_R_isKind_7
set_option maxHeartbeats 1000000 in
set_option maxRecDepth 20000 in
theorem c_R_isThought (l : Launch) (E : QE) (S : QM) (x : Int32) : qCI E l y_R_isThought prog_7_method_64_code 1 .boolean 2 [.int x] S (b2i (inR 0 40 x)) S := by
  refine qCI_of (by decide) (Nat.le_of_ble_eq_true rfl) (fun p e s m below meth c ls X hW hl => ?_)
  have hl : lv_has ls 1 [(0, .int x)] := hl
  refine lv_iload_n X.x X.b d_R_isThought_0 rfl (lv_at hl 0 rfl) ?_
  refine lv_iconst (v := nI 0) X.x X.b d_R_isThought_1 (by decide) ?_
  refine lv_bipush (v := nI 40) X.x X.b d_R_isThought_2 (by decide) ?_
  refine q_csi X (c_R_within l E S x (nI 0) (nI 40)) hW ok_R_within mw_757 ⟨by decide, by decide⟩ (As := [.int x, .int (nI 0), .int (nI 40)]) rfl rfl (Nat.le_of_ble_eq_true rfl) (lv := [(0, .int x)]) hl ⟨Nat.le_refl 0, Nat.le_refl 0⟩ d_R_isThought_4 (fun H locs hW => ?_)
  exact q_zret X b2i_z hW ⟨rfl, rfl⟩ d_R_isThought_7
set_option maxHeartbeats 1000000 in
set_option maxRecDepth 20000 in
theorem c_R_isSpot (l : Launch) (E : QE) (S : QM) (x : Int32) : qCI E l y_R_isSpot prog_7_method_95_code 1 .boolean 2 [.int x] S (b2i (inR 0 9 x)) S := by
  refine qCI_of (by decide) (Nat.le_of_ble_eq_true rfl) (fun p e s m below meth c ls X hW hl => ?_)
  have hl : lv_has ls 1 [(0, .int x)] := hl
  refine lv_iload_n X.x X.b d_R_isSpot_0 rfl (lv_at hl 0 rfl) ?_
  refine lv_iconst (v := nI 0) X.x X.b d_R_isSpot_1 (by decide) ?_
  refine lv_bipush (v := nI 9) X.x X.b d_R_isSpot_2 (by decide) ?_
  refine q_csi X (c_R_within l E S x (nI 0) (nI 9)) hW ok_R_within mw_757 ⟨by decide, by decide⟩ (As := [.int x, .int (nI 0), .int (nI 9)]) rfl rfl (Nat.le_of_ble_eq_true rfl) (lv := [(0, .int x)]) hl ⟨Nat.le_refl 0, Nat.le_refl 0⟩ d_R_isSpot_4 (fun H locs hW => ?_)
  exact q_zret X b2i_z hW ⟨rfl, rfl⟩ d_R_isSpot_7
set_option maxHeartbeats 1000000 in
set_option maxRecDepth 20000 in
theorem c_R_isSheet (l : Launch) (E : QE) (S : QM) (x : Int32) : qCI E l y_R_isSheet prog_7_method_98_code 1 .boolean 2 [.int x] S (b2i (inR 0 3 x)) S := by
  refine qCI_of (by decide) (Nat.le_of_ble_eq_true rfl) (fun p e s m below meth c ls X hW hl => ?_)
  have hl : lv_has ls 1 [(0, .int x)] := hl
  refine lv_iload_n X.x X.b d_R_isSheet_0 rfl (lv_at hl 0 rfl) ?_
  refine lv_iconst (v := nI 0) X.x X.b d_R_isSheet_1 (by decide) ?_
  refine lv_iconst (v := nI 3) X.x X.b d_R_isSheet_2 (by decide) ?_
  refine q_csi X (c_R_within l E S x (nI 0) (nI 3)) hW ok_R_within mw_757 ⟨by decide, by decide⟩ (As := [.int x, .int (nI 0), .int (nI 3)]) rfl rfl (Nat.le_of_ble_eq_true rfl) (lv := [(0, .int x)]) hl ⟨Nat.le_refl 0, Nat.le_refl 0⟩ d_R_isSheet_3 (fun H locs hW => ?_)
  exact q_zret X b2i_z hW ⟨rfl, rfl⟩ d_R_isSheet_6
set_option maxHeartbeats 1000000 in
set_option maxRecDepth 20000 in
theorem c_R_isThing (l : Launch) (E : QE) (S : QM) (ν : Nat → Int32) (hν : S 16 = ν) (hwf : WF ν) (x : Int32) : qCI E l y_R_isThing prog_7_method_19_code 2 .boolean 2 [.ref (eA E 70), .int x] S (b2i (isT ν x)) S := by
  refine qCI_of (by decide) (Nat.le_of_ble_eq_true rfl) (fun p e s m below meth c ls X hW hl => ?_)
  have hl : lv_has ls 2 [(0, .ref (eA E 70)), (1, .int x)] := hl
  have htl := hwf.tl
  have hwl := hwf.wl
  have hdl := hwf.dl
  refine lv_iload_n X.x X.b d_R_isThing_0 rfl (lv_at hl 1 rfl) ?_
  refine lv_iconst (v := nI 0) X.x X.b d_R_isThing_1 (by decide) ?_
  refine lv_aload_n X.x X.b d_R_isThing_2 rfl (lv_at hl 0 rfl) ?_
  refine q_getr X hW qj4 rfl _ ds_R 0 (by decide) mw_686 rfl (c1 := 71) rfl d_R_isThing_3 ?_
  refine lv_iconst (v := nI 1) X.x X.b d_R_isThing_6 (by decide) ?_
  refine g_ald X hW ds_71 (q_in (by omega) (by decide)) (p0 := 1) (q_tn (by omega) (by omega)) (v := ν 1) (by rw [hν]) d_R_isThing_7 ?_
  refine lv_iconst (v := nI 1) X.x X.b d_R_isThing_8 (by decide) ?_
  refine lv_isub X.x X.b d_R_isThing_9 ?_
  refine q_csi X (c_R_within l E S x (nI 0) ((ν 1) - (nI 1))) hW ok_R_within mw_757 ⟨by decide, by decide⟩ (As := [.int x, .int (nI 0), .int ((ν 1) - (nI 1))]) rfl rfl (Nat.le_of_ble_eq_true rfl) (lv := [(0, .ref (eA E 70)), (1, .int x)]) hl ⟨Nat.le_refl 0, Nat.le_refl 0⟩ d_R_isThing_10 (fun H locs hW => ?_)
  exact q_zret X b2i_z hW ⟨b2i_c (isT_m hwf), rfl⟩ d_R_isThing_13
set_option maxHeartbeats 1000000 in
set_option maxRecDepth 20000 in
theorem c_R_isWalker (l : Launch) (E : QE) (S : QM) (ν : Nat → Int32) (hν : S 16 = ν) (hwf : WF ν) (x : Int32) : qCI E l y_R_isWalker prog_7_method_22_code 2 .boolean 2 [.ref (eA E 70), .int x] S (b2i (isW ν x)) S := by
  refine qCI_of (by decide) (Nat.le_of_ble_eq_true rfl) (fun p e s m below meth c ls X hW hl => ?_)
  have hl : lv_has ls 2 [(0, .ref (eA E 70)), (1, .int x)] := hl
  have htl := hwf.tl
  have hwl := hwf.wl
  have hdl := hwf.dl
  refine lv_iload_n X.x X.b d_R_isWalker_0 rfl (lv_at hl 1 rfl) ?_
  refine lv_iconst (v := nI 0) X.x X.b d_R_isWalker_1 (by decide) ?_
  refine lv_aload_n X.x X.b d_R_isWalker_2 rfl (lv_at hl 0 rfl) ?_
  refine q_getr X hW qj4 rfl _ ds_R 0 (by decide) mw_686 rfl (c1 := 71) rfl d_R_isWalker_3 ?_
  refine lv_iconst (v := nI 3) X.x X.b d_R_isWalker_6 (by decide) ?_
  refine g_ald X hW ds_71 (q_in (by omega) (by decide)) (p0 := 3) (q_tn (by omega) (by omega)) (v := ν 3) (by rw [hν]) d_R_isWalker_7 ?_
  refine lv_iconst (v := nI 1) X.x X.b d_R_isWalker_8 (by decide) ?_
  refine lv_isub X.x X.b d_R_isWalker_9 ?_
  refine q_csi X (c_R_within l E S x (nI 0) ((ν 3) - (nI 1))) hW ok_R_within mw_757 ⟨by decide, by decide⟩ (As := [.int x, .int (nI 0), .int ((ν 3) - (nI 1))]) rfl rfl (Nat.le_of_ble_eq_true rfl) (lv := [(0, .ref (eA E 70)), (1, .int x)]) hl ⟨Nat.le_refl 0, Nat.le_refl 0⟩ d_R_isWalker_10 (fun H locs hW => ?_)
  exact q_zret X b2i_z hW ⟨b2i_c (isW_m hwf), rfl⟩ d_R_isWalker_13
set_option maxHeartbeats 1000000 in
set_option maxRecDepth 20000 in
theorem c_R_finding_0 (l : Launch) (E : QE) (S : QM) (ψ : Nat → Int32) (hψ : S 19 = ψ) : qCI E l y_R_finding prog_7_method_2_code 2 .int 1 [.ref (eA E 70), .int (-1000001)] S (-1000001) (qr S 19 (fnR ψ 0)) := by
  refine qCI_of (by decide) (Nat.le_of_ble_eq_true rfl) (fun p e s m below meth c ls X hW hl => ?_)
  have hl : lv_has ls 2 [(0, .ref (eA E 70)), (1, .int (-1000001))] := hl
  refine lv_aload_n X.x X.b d_R_finding_0 rfl (lv_at hl 0 rfl) ?_
  refine q_getr X hW qj4 rfl _ ds_R 4 (by decide) mw_690 rfl (c1 := 74) rfl d_R_finding_1 ?_
  refine lv_ldc (v := (-1000001)) X.x X.b X.ow (X.ts _ mw_767) d_R_finding_4 ?_
  refine lv_iload_n X.x X.b d_R_finding_6 rfl (lv_at hl 1 rfl) ?_
  refine lv_isub X.x X.b d_R_finding_7 ?_
  rw [show (-1000001) - (-1000001) = nI 0 from (by decide)]
  refine lv_iconst (v := nI 1) X.x X.b d_R_finding_8 (by decide) ?_
  refine lv_iadd X.x X.b d_R_finding_9 ?_
  rw [show (nI 0) + (nI 1) = nI 1 from by decide]
  refine lv_dup2_11 X.x X.b d_R_finding_10 rfl rfl ?_
  refine g_ald X hW ds_74 (q_in (by omega) (by decide)) (p0 := 1) (q_tn (by omega) (by omega)) (v := ψ 1) (by rw [hψ]) d_R_finding_11 ?_
  refine lv_iconst (v := nI 1) X.x X.b d_R_finding_12 (by decide) ?_
  refine lv_iadd X.x X.b d_R_finding_13 ?_
  refine g_ast X hW ds_74 (q_in (by omega) (by decide)) (p0 := 1) (q_tn (by omega) (by omega)) (ρ := ψ) (by rw [hψ]) d_R_finding_14 (fun H locs hW => ?_)
  obtain ⟨r14, er14⟩ : ∃ z, z = upd ψ 1 ((ψ 1) + (nI 1)) := ⟨_, rfl⟩
  rw [← er14] at hW
  refine lv_aload_n X.x X.b d_R_finding_15 rfl (lv_at hl 0 rfl) ?_
  refine q_getr X hW qj4 rfl _ ds_R 4 (by decide) mw_690 rfl (c1 := 74) rfl d_R_finding_16 ?_
  refine lv_iconst (v := nI 0) X.x X.b d_R_finding_19 (by decide) ?_
  refine lv_dup2_11 X.x X.b d_R_finding_20 rfl rfl ?_
  refine g_ald X hW ds_74 (q_in (by omega) (by decide)) (p0 := 0) (q_tn (by omega) (by omega)) (v := r14 0) (by rw [qr_at]) d_R_finding_21 ?_
  refine lv_iconst (v := nI 1) X.x X.b d_R_finding_22 (by decide) ?_
  refine lv_iadd X.x X.b d_R_finding_23 ?_
  refine g_ast X hW ds_74 (q_in (by omega) (by decide)) (p0 := 0) (q_tn (by omega) (by omega)) (ρ := r14) (by rw [qr_at]) d_R_finding_24 (fun H locs hW => ?_)
  obtain ⟨r24, er24⟩ : ∃ z, z = upd r14 0 ((r14 0) + (nI 1)) := ⟨_, rfl⟩
  rw [← er24] at hW
  rw [qr_qr] at hW
  refine lv_iload_n X.x X.b d_R_finding_25 rfl (lv_at hl 1 rfl) ?_
  exact q_zret X rfl hW ⟨rfl, by rw [er24, er14]; rfl⟩ d_R_finding_26
set_option maxHeartbeats 1000000 in
set_option maxRecDepth 20000 in
theorem c_R_finding_1 (l : Launch) (E : QE) (S : QM) (ψ : Nat → Int32) (hψ : S 19 = ψ) : qCI E l y_R_finding prog_7_method_2_code 2 .int 1 [.ref (eA E 70), .int (-1000002)] S (-1000002) (qr S 19 (fnR ψ 1)) := by
  refine qCI_of (by decide) (Nat.le_of_ble_eq_true rfl) (fun p e s m below meth c ls X hW hl => ?_)
  have hl : lv_has ls 2 [(0, .ref (eA E 70)), (1, .int (-1000002))] := hl
  refine lv_aload_n X.x X.b d_R_finding_0 rfl (lv_at hl 0 rfl) ?_
  refine q_getr X hW qj4 rfl _ ds_R 4 (by decide) mw_690 rfl (c1 := 74) rfl d_R_finding_1 ?_
  refine lv_ldc (v := (-1000001)) X.x X.b X.ow (X.ts _ mw_767) d_R_finding_4 ?_
  refine lv_iload_n X.x X.b d_R_finding_6 rfl (lv_at hl 1 rfl) ?_
  refine lv_isub X.x X.b d_R_finding_7 ?_
  rw [show (-1000001) - (-1000002) = nI 1 from (by decide)]
  refine lv_iconst (v := nI 1) X.x X.b d_R_finding_8 (by decide) ?_
  refine lv_iadd X.x X.b d_R_finding_9 ?_
  rw [show (nI 1) + (nI 1) = nI 2 from by decide]
  refine lv_dup2_11 X.x X.b d_R_finding_10 rfl rfl ?_
  refine g_ald X hW ds_74 (q_in (by omega) (by decide)) (p0 := 2) (q_tn (by omega) (by omega)) (v := ψ 2) (by rw [hψ]) d_R_finding_11 ?_
  refine lv_iconst (v := nI 1) X.x X.b d_R_finding_12 (by decide) ?_
  refine lv_iadd X.x X.b d_R_finding_13 ?_
  refine g_ast X hW ds_74 (q_in (by omega) (by decide)) (p0 := 2) (q_tn (by omega) (by omega)) (ρ := ψ) (by rw [hψ]) d_R_finding_14 (fun H locs hW => ?_)
  obtain ⟨r14, er14⟩ : ∃ z, z = upd ψ 2 ((ψ 2) + (nI 1)) := ⟨_, rfl⟩
  rw [← er14] at hW
  refine lv_aload_n X.x X.b d_R_finding_15 rfl (lv_at hl 0 rfl) ?_
  refine q_getr X hW qj4 rfl _ ds_R 4 (by decide) mw_690 rfl (c1 := 74) rfl d_R_finding_16 ?_
  refine lv_iconst (v := nI 0) X.x X.b d_R_finding_19 (by decide) ?_
  refine lv_dup2_11 X.x X.b d_R_finding_20 rfl rfl ?_
  refine g_ald X hW ds_74 (q_in (by omega) (by decide)) (p0 := 0) (q_tn (by omega) (by omega)) (v := r14 0) (by rw [qr_at]) d_R_finding_21 ?_
  refine lv_iconst (v := nI 1) X.x X.b d_R_finding_22 (by decide) ?_
  refine lv_iadd X.x X.b d_R_finding_23 ?_
  refine g_ast X hW ds_74 (q_in (by omega) (by decide)) (p0 := 0) (q_tn (by omega) (by omega)) (ρ := r14) (by rw [qr_at]) d_R_finding_24 (fun H locs hW => ?_)
  obtain ⟨r24, er24⟩ : ∃ z, z = upd r14 0 ((r14 0) + (nI 1)) := ⟨_, rfl⟩
  rw [← er24] at hW
  rw [qr_qr] at hW
  refine lv_iload_n X.x X.b d_R_finding_25 rfl (lv_at hl 1 rfl) ?_
  exact q_zret X rfl hW ⟨rfl, by rw [er24, er14]; rfl⟩ d_R_finding_26
set_option maxHeartbeats 1000000 in
set_option maxRecDepth 20000 in
theorem c_R_finding_2 (l : Launch) (E : QE) (S : QM) (ψ : Nat → Int32) (hψ : S 19 = ψ) : qCI E l y_R_finding prog_7_method_2_code 2 .int 1 [.ref (eA E 70), .int (-1000003)] S (-1000003) (qr S 19 (fnR ψ 2)) := by
  refine qCI_of (by decide) (Nat.le_of_ble_eq_true rfl) (fun p e s m below meth c ls X hW hl => ?_)
  have hl : lv_has ls 2 [(0, .ref (eA E 70)), (1, .int (-1000003))] := hl
  refine lv_aload_n X.x X.b d_R_finding_0 rfl (lv_at hl 0 rfl) ?_
  refine q_getr X hW qj4 rfl _ ds_R 4 (by decide) mw_690 rfl (c1 := 74) rfl d_R_finding_1 ?_
  refine lv_ldc (v := (-1000001)) X.x X.b X.ow (X.ts _ mw_767) d_R_finding_4 ?_
  refine lv_iload_n X.x X.b d_R_finding_6 rfl (lv_at hl 1 rfl) ?_
  refine lv_isub X.x X.b d_R_finding_7 ?_
  rw [show (-1000001) - (-1000003) = nI 2 from (by decide)]
  refine lv_iconst (v := nI 1) X.x X.b d_R_finding_8 (by decide) ?_
  refine lv_iadd X.x X.b d_R_finding_9 ?_
  rw [show (nI 2) + (nI 1) = nI 3 from by decide]
  refine lv_dup2_11 X.x X.b d_R_finding_10 rfl rfl ?_
  refine g_ald X hW ds_74 (q_in (by omega) (by decide)) (p0 := 3) (q_tn (by omega) (by omega)) (v := ψ 3) (by rw [hψ]) d_R_finding_11 ?_
  refine lv_iconst (v := nI 1) X.x X.b d_R_finding_12 (by decide) ?_
  refine lv_iadd X.x X.b d_R_finding_13 ?_
  refine g_ast X hW ds_74 (q_in (by omega) (by decide)) (p0 := 3) (q_tn (by omega) (by omega)) (ρ := ψ) (by rw [hψ]) d_R_finding_14 (fun H locs hW => ?_)
  obtain ⟨r14, er14⟩ : ∃ z, z = upd ψ 3 ((ψ 3) + (nI 1)) := ⟨_, rfl⟩
  rw [← er14] at hW
  refine lv_aload_n X.x X.b d_R_finding_15 rfl (lv_at hl 0 rfl) ?_
  refine q_getr X hW qj4 rfl _ ds_R 4 (by decide) mw_690 rfl (c1 := 74) rfl d_R_finding_16 ?_
  refine lv_iconst (v := nI 0) X.x X.b d_R_finding_19 (by decide) ?_
  refine lv_dup2_11 X.x X.b d_R_finding_20 rfl rfl ?_
  refine g_ald X hW ds_74 (q_in (by omega) (by decide)) (p0 := 0) (q_tn (by omega) (by omega)) (v := r14 0) (by rw [qr_at]) d_R_finding_21 ?_
  refine lv_iconst (v := nI 1) X.x X.b d_R_finding_22 (by decide) ?_
  refine lv_iadd X.x X.b d_R_finding_23 ?_
  refine g_ast X hW ds_74 (q_in (by omega) (by decide)) (p0 := 0) (q_tn (by omega) (by omega)) (ρ := r14) (by rw [qr_at]) d_R_finding_24 (fun H locs hW => ?_)
  obtain ⟨r24, er24⟩ : ∃ z, z = upd r14 0 ((r14 0) + (nI 1)) := ⟨_, rfl⟩
  rw [← er24] at hW
  rw [qr_qr] at hW
  refine lv_iload_n X.x X.b d_R_finding_25 rfl (lv_at hl 1 rfl) ?_
  exact q_zret X rfl hW ⟨rfl, by rw [er24, er14]; rfl⟩ d_R_finding_26
set_option maxHeartbeats 1000000 in
set_option maxRecDepth 20000 in
theorem c_R_finding_3 (l : Launch) (E : QE) (S : QM) (ψ : Nat → Int32) (hψ : S 19 = ψ) : qCI E l y_R_finding prog_7_method_2_code 2 .int 1 [.ref (eA E 70), .int (-1000004)] S (-1000004) (qr S 19 (fnR ψ 3)) := by
  refine qCI_of (by decide) (Nat.le_of_ble_eq_true rfl) (fun p e s m below meth c ls X hW hl => ?_)
  have hl : lv_has ls 2 [(0, .ref (eA E 70)), (1, .int (-1000004))] := hl
  refine lv_aload_n X.x X.b d_R_finding_0 rfl (lv_at hl 0 rfl) ?_
  refine q_getr X hW qj4 rfl _ ds_R 4 (by decide) mw_690 rfl (c1 := 74) rfl d_R_finding_1 ?_
  refine lv_ldc (v := (-1000001)) X.x X.b X.ow (X.ts _ mw_767) d_R_finding_4 ?_
  refine lv_iload_n X.x X.b d_R_finding_6 rfl (lv_at hl 1 rfl) ?_
  refine lv_isub X.x X.b d_R_finding_7 ?_
  rw [show (-1000001) - (-1000004) = nI 3 from (by decide)]
  refine lv_iconst (v := nI 1) X.x X.b d_R_finding_8 (by decide) ?_
  refine lv_iadd X.x X.b d_R_finding_9 ?_
  rw [show (nI 3) + (nI 1) = nI 4 from by decide]
  refine lv_dup2_11 X.x X.b d_R_finding_10 rfl rfl ?_
  refine g_ald X hW ds_74 (q_in (by omega) (by decide)) (p0 := 4) (q_tn (by omega) (by omega)) (v := ψ 4) (by rw [hψ]) d_R_finding_11 ?_
  refine lv_iconst (v := nI 1) X.x X.b d_R_finding_12 (by decide) ?_
  refine lv_iadd X.x X.b d_R_finding_13 ?_
  refine g_ast X hW ds_74 (q_in (by omega) (by decide)) (p0 := 4) (q_tn (by omega) (by omega)) (ρ := ψ) (by rw [hψ]) d_R_finding_14 (fun H locs hW => ?_)
  obtain ⟨r14, er14⟩ : ∃ z, z = upd ψ 4 ((ψ 4) + (nI 1)) := ⟨_, rfl⟩
  rw [← er14] at hW
  refine lv_aload_n X.x X.b d_R_finding_15 rfl (lv_at hl 0 rfl) ?_
  refine q_getr X hW qj4 rfl _ ds_R 4 (by decide) mw_690 rfl (c1 := 74) rfl d_R_finding_16 ?_
  refine lv_iconst (v := nI 0) X.x X.b d_R_finding_19 (by decide) ?_
  refine lv_dup2_11 X.x X.b d_R_finding_20 rfl rfl ?_
  refine g_ald X hW ds_74 (q_in (by omega) (by decide)) (p0 := 0) (q_tn (by omega) (by omega)) (v := r14 0) (by rw [qr_at]) d_R_finding_21 ?_
  refine lv_iconst (v := nI 1) X.x X.b d_R_finding_22 (by decide) ?_
  refine lv_iadd X.x X.b d_R_finding_23 ?_
  refine g_ast X hW ds_74 (q_in (by omega) (by decide)) (p0 := 0) (q_tn (by omega) (by omega)) (ρ := r14) (by rw [qr_at]) d_R_finding_24 (fun H locs hW => ?_)
  obtain ⟨r24, er24⟩ : ∃ z, z = upd r14 0 ((r14 0) + (nI 1)) := ⟨_, rfl⟩
  rw [← er24] at hW
  rw [qr_qr] at hW
  refine lv_iload_n X.x X.b d_R_finding_25 rfl (lv_at hl 1 rfl) ?_
  exact q_zret X rfl hW ⟨rfl, by rw [er24, er14]; rfl⟩ d_R_finding_26
set_option maxHeartbeats 1000000 in
set_option maxRecDepth 20000 in
theorem c_R_finding_4 (l : Launch) (E : QE) (S : QM) (ψ : Nat → Int32) (hψ : S 19 = ψ) : qCI E l y_R_finding prog_7_method_2_code 2 .int 1 [.ref (eA E 70), .int (-1000005)] S (-1000005) (qr S 19 (fnR ψ 4)) := by
  refine qCI_of (by decide) (Nat.le_of_ble_eq_true rfl) (fun p e s m below meth c ls X hW hl => ?_)
  have hl : lv_has ls 2 [(0, .ref (eA E 70)), (1, .int (-1000005))] := hl
  refine lv_aload_n X.x X.b d_R_finding_0 rfl (lv_at hl 0 rfl) ?_
  refine q_getr X hW qj4 rfl _ ds_R 4 (by decide) mw_690 rfl (c1 := 74) rfl d_R_finding_1 ?_
  refine lv_ldc (v := (-1000001)) X.x X.b X.ow (X.ts _ mw_767) d_R_finding_4 ?_
  refine lv_iload_n X.x X.b d_R_finding_6 rfl (lv_at hl 1 rfl) ?_
  refine lv_isub X.x X.b d_R_finding_7 ?_
  rw [show (-1000001) - (-1000005) = nI 4 from (by decide)]
  refine lv_iconst (v := nI 1) X.x X.b d_R_finding_8 (by decide) ?_
  refine lv_iadd X.x X.b d_R_finding_9 ?_
  rw [show (nI 4) + (nI 1) = nI 5 from by decide]
  refine lv_dup2_11 X.x X.b d_R_finding_10 rfl rfl ?_
  refine g_ald X hW ds_74 (q_in (by omega) (by decide)) (p0 := 5) (q_tn (by omega) (by omega)) (v := ψ 5) (by rw [hψ]) d_R_finding_11 ?_
  refine lv_iconst (v := nI 1) X.x X.b d_R_finding_12 (by decide) ?_
  refine lv_iadd X.x X.b d_R_finding_13 ?_
  refine g_ast X hW ds_74 (q_in (by omega) (by decide)) (p0 := 5) (q_tn (by omega) (by omega)) (ρ := ψ) (by rw [hψ]) d_R_finding_14 (fun H locs hW => ?_)
  obtain ⟨r14, er14⟩ : ∃ z, z = upd ψ 5 ((ψ 5) + (nI 1)) := ⟨_, rfl⟩
  rw [← er14] at hW
  refine lv_aload_n X.x X.b d_R_finding_15 rfl (lv_at hl 0 rfl) ?_
  refine q_getr X hW qj4 rfl _ ds_R 4 (by decide) mw_690 rfl (c1 := 74) rfl d_R_finding_16 ?_
  refine lv_iconst (v := nI 0) X.x X.b d_R_finding_19 (by decide) ?_
  refine lv_dup2_11 X.x X.b d_R_finding_20 rfl rfl ?_
  refine g_ald X hW ds_74 (q_in (by omega) (by decide)) (p0 := 0) (q_tn (by omega) (by omega)) (v := r14 0) (by rw [qr_at]) d_R_finding_21 ?_
  refine lv_iconst (v := nI 1) X.x X.b d_R_finding_22 (by decide) ?_
  refine lv_iadd X.x X.b d_R_finding_23 ?_
  refine g_ast X hW ds_74 (q_in (by omega) (by decide)) (p0 := 0) (q_tn (by omega) (by omega)) (ρ := r14) (by rw [qr_at]) d_R_finding_24 (fun H locs hW => ?_)
  obtain ⟨r24, er24⟩ : ∃ z, z = upd r14 0 ((r14 0) + (nI 1)) := ⟨_, rfl⟩
  rw [← er24] at hW
  rw [qr_qr] at hW
  refine lv_iload_n X.x X.b d_R_finding_25 rfl (lv_at hl 1 rfl) ?_
  exact q_zret X rfl hW ⟨rfl, by rw [er24, er14]; rfl⟩ d_R_finding_26
set_option maxHeartbeats 1000000 in
set_option maxRecDepth 20000 in
theorem c_R_finding_5 (l : Launch) (E : QE) (S : QM) (ψ : Nat → Int32) (hψ : S 19 = ψ) : qCI E l y_R_finding prog_7_method_2_code 2 .int 1 [.ref (eA E 70), .int (-1000006)] S (-1000006) (qr S 19 (fnR ψ 5)) := by
  refine qCI_of (by decide) (Nat.le_of_ble_eq_true rfl) (fun p e s m below meth c ls X hW hl => ?_)
  have hl : lv_has ls 2 [(0, .ref (eA E 70)), (1, .int (-1000006))] := hl
  refine lv_aload_n X.x X.b d_R_finding_0 rfl (lv_at hl 0 rfl) ?_
  refine q_getr X hW qj4 rfl _ ds_R 4 (by decide) mw_690 rfl (c1 := 74) rfl d_R_finding_1 ?_
  refine lv_ldc (v := (-1000001)) X.x X.b X.ow (X.ts _ mw_767) d_R_finding_4 ?_
  refine lv_iload_n X.x X.b d_R_finding_6 rfl (lv_at hl 1 rfl) ?_
  refine lv_isub X.x X.b d_R_finding_7 ?_
  rw [show (-1000001) - (-1000006) = nI 5 from (by decide)]
  refine lv_iconst (v := nI 1) X.x X.b d_R_finding_8 (by decide) ?_
  refine lv_iadd X.x X.b d_R_finding_9 ?_
  rw [show (nI 5) + (nI 1) = nI 6 from by decide]
  refine lv_dup2_11 X.x X.b d_R_finding_10 rfl rfl ?_
  refine g_ald X hW ds_74 (q_in (by omega) (by decide)) (p0 := 6) (q_tn (by omega) (by omega)) (v := ψ 6) (by rw [hψ]) d_R_finding_11 ?_
  refine lv_iconst (v := nI 1) X.x X.b d_R_finding_12 (by decide) ?_
  refine lv_iadd X.x X.b d_R_finding_13 ?_
  refine g_ast X hW ds_74 (q_in (by omega) (by decide)) (p0 := 6) (q_tn (by omega) (by omega)) (ρ := ψ) (by rw [hψ]) d_R_finding_14 (fun H locs hW => ?_)
  obtain ⟨r14, er14⟩ : ∃ z, z = upd ψ 6 ((ψ 6) + (nI 1)) := ⟨_, rfl⟩
  rw [← er14] at hW
  refine lv_aload_n X.x X.b d_R_finding_15 rfl (lv_at hl 0 rfl) ?_
  refine q_getr X hW qj4 rfl _ ds_R 4 (by decide) mw_690 rfl (c1 := 74) rfl d_R_finding_16 ?_
  refine lv_iconst (v := nI 0) X.x X.b d_R_finding_19 (by decide) ?_
  refine lv_dup2_11 X.x X.b d_R_finding_20 rfl rfl ?_
  refine g_ald X hW ds_74 (q_in (by omega) (by decide)) (p0 := 0) (q_tn (by omega) (by omega)) (v := r14 0) (by rw [qr_at]) d_R_finding_21 ?_
  refine lv_iconst (v := nI 1) X.x X.b d_R_finding_22 (by decide) ?_
  refine lv_iadd X.x X.b d_R_finding_23 ?_
  refine g_ast X hW ds_74 (q_in (by omega) (by decide)) (p0 := 0) (q_tn (by omega) (by omega)) (ρ := r14) (by rw [qr_at]) d_R_finding_24 (fun H locs hW => ?_)
  obtain ⟨r24, er24⟩ : ∃ z, z = upd r14 0 ((r14 0) + (nI 1)) := ⟨_, rfl⟩
  rw [← er24] at hW
  rw [qr_qr] at hW
  refine lv_iload_n X.x X.b d_R_finding_25 rfl (lv_at hl 1 rfl) ?_
  exact q_zret X rfl hW ⟨rfl, by rw [er24, er14]; rfl⟩ d_R_finding_26
set_option maxHeartbeats 1000000 in
set_option maxRecDepth 20000 in
theorem c_R_finding_6 (l : Launch) (E : QE) (S : QM) (ψ : Nat → Int32) (hψ : S 19 = ψ) : qCI E l y_R_finding prog_7_method_2_code 2 .int 1 [.ref (eA E 70), .int (-1000007)] S (-1000007) (qr S 19 (fnR ψ 6)) := by
  refine qCI_of (by decide) (Nat.le_of_ble_eq_true rfl) (fun p e s m below meth c ls X hW hl => ?_)
  have hl : lv_has ls 2 [(0, .ref (eA E 70)), (1, .int (-1000007))] := hl
  refine lv_aload_n X.x X.b d_R_finding_0 rfl (lv_at hl 0 rfl) ?_
  refine q_getr X hW qj4 rfl _ ds_R 4 (by decide) mw_690 rfl (c1 := 74) rfl d_R_finding_1 ?_
  refine lv_ldc (v := (-1000001)) X.x X.b X.ow (X.ts _ mw_767) d_R_finding_4 ?_
  refine lv_iload_n X.x X.b d_R_finding_6 rfl (lv_at hl 1 rfl) ?_
  refine lv_isub X.x X.b d_R_finding_7 ?_
  rw [show (-1000001) - (-1000007) = nI 6 from (by decide)]
  refine lv_iconst (v := nI 1) X.x X.b d_R_finding_8 (by decide) ?_
  refine lv_iadd X.x X.b d_R_finding_9 ?_
  rw [show (nI 6) + (nI 1) = nI 7 from by decide]
  refine lv_dup2_11 X.x X.b d_R_finding_10 rfl rfl ?_
  refine g_ald X hW ds_74 (q_in (by omega) (by decide)) (p0 := 7) (q_tn (by omega) (by omega)) (v := ψ 7) (by rw [hψ]) d_R_finding_11 ?_
  refine lv_iconst (v := nI 1) X.x X.b d_R_finding_12 (by decide) ?_
  refine lv_iadd X.x X.b d_R_finding_13 ?_
  refine g_ast X hW ds_74 (q_in (by omega) (by decide)) (p0 := 7) (q_tn (by omega) (by omega)) (ρ := ψ) (by rw [hψ]) d_R_finding_14 (fun H locs hW => ?_)
  obtain ⟨r14, er14⟩ : ∃ z, z = upd ψ 7 ((ψ 7) + (nI 1)) := ⟨_, rfl⟩
  rw [← er14] at hW
  refine lv_aload_n X.x X.b d_R_finding_15 rfl (lv_at hl 0 rfl) ?_
  refine q_getr X hW qj4 rfl _ ds_R 4 (by decide) mw_690 rfl (c1 := 74) rfl d_R_finding_16 ?_
  refine lv_iconst (v := nI 0) X.x X.b d_R_finding_19 (by decide) ?_
  refine lv_dup2_11 X.x X.b d_R_finding_20 rfl rfl ?_
  refine g_ald X hW ds_74 (q_in (by omega) (by decide)) (p0 := 0) (q_tn (by omega) (by omega)) (v := r14 0) (by rw [qr_at]) d_R_finding_21 ?_
  refine lv_iconst (v := nI 1) X.x X.b d_R_finding_22 (by decide) ?_
  refine lv_iadd X.x X.b d_R_finding_23 ?_
  refine g_ast X hW ds_74 (q_in (by omega) (by decide)) (p0 := 0) (q_tn (by omega) (by omega)) (ρ := r14) (by rw [qr_at]) d_R_finding_24 (fun H locs hW => ?_)
  obtain ⟨r24, er24⟩ : ∃ z, z = upd r14 0 ((r14 0) + (nI 1)) := ⟨_, rfl⟩
  rw [← er24] at hW
  rw [qr_qr] at hW
  refine lv_iload_n X.x X.b d_R_finding_25 rfl (lv_at hl 1 rfl) ?_
  exact q_zret X rfl hW ⟨rfl, by rw [er24, er14]; rfl⟩ d_R_finding_26
set_option maxHeartbeats 1000000 in
set_option maxRecDepth 20000 in
theorem c_R_become (l : Launch) (E : QE) (S : QM) (ν : Nat → Int32) (hν : S 16 = ν) (pl : Nat) (v : Int32) (hp : pl < 80) : qCI E l y_R_become prog_7_method_4_code 4 .int 1 [.ref (eA E 70), .int (nI pl), .int v] S (ν pl) (qr S 16 (upd ν pl v)) := by
  refine qCI_of (by decide) (Nat.le_of_ble_eq_true rfl) (fun p e s m below meth c ls X hW hl => ?_)
  have hl : lv_has ls 4 [(0, .ref (eA E 70)), (1, .int (nI pl)), (2, .int v)] := hl
  refine lv_aload_n X.x X.b d_R_become_0 rfl (lv_at hl 0 rfl) ?_
  refine q_getr X hW qj4 rfl _ ds_R 0 (by decide) mw_686 rfl (c1 := 71) rfl d_R_become_1 ?_
  refine lv_iload_n X.x X.b d_R_become_4 rfl (lv_at hl 1 rfl) ?_
  refine g_ald X hW ds_71 (q_in (by omega) (by decide)) (p0 := pl) (q_tn (by omega) (by omega)) (v := ν pl) (by rw [hν]) d_R_become_5 ?_
  refine lv_istore_n (lv' := [(3, .int (ν pl)), (0, .ref (eA E 70)), (1, .int (nI pl)), (2, .int v)]) X.x X.b d_R_become_6 rfl hl (by decide) rfl (fun ls hl => ?_)
  refine lv_aload_n X.x X.b d_R_become_7 rfl (lv_at hl 1 rfl) ?_
  refine q_getr X hW qj4 rfl _ ds_R 0 (by decide) mw_686 rfl (c1 := 71) rfl d_R_become_8 ?_
  refine lv_iload_n X.x X.b d_R_become_11 rfl (lv_at hl 2 rfl) ?_
  refine lv_iload_n X.x X.b d_R_become_12 rfl (lv_at hl 3 rfl) ?_
  refine g_ast X hW ds_71 (q_in (by omega) (by decide)) (p0 := pl) (q_tn (by omega) (by omega)) (ρ := ν) (by rw [hν]) d_R_become_13 (fun H locs hW => ?_)
  obtain ⟨r13, er13⟩ : ∃ z, z = upd ν pl v := ⟨_, rfl⟩
  rw [← er13] at hW
  refine lv_iload_n X.x X.b d_R_become_14 rfl (lv_at hl 0 rfl) ?_
  exact q_zret X rfl hW ⟨rfl, by rw [er13]⟩ d_R_become_15
set_option maxHeartbeats 1000000 in
set_option maxRecDepth 20000 in
theorem c_R_thingAt (l : Launch) (E : QE) (S : QM) (t f : Nat) : qCI E l y_R_thingAt prog_7_method_17_code 2 .int 1 [.int (nI t), .int (nI f)] S (nI (20 + 3 * t + f)) S := by
  refine qCI_of (by decide) (Nat.le_of_ble_eq_true rfl) (fun p e s m below meth c ls X hW hl => ?_)
  have hl : lv_has ls 2 [(0, .int (nI t)), (1, .int (nI f))] := hl
  refine lv_bipush (v := nI 20) X.x X.b d_R_thingAt_0 (by decide) ?_
  refine lv_iconst (v := nI 3) X.x X.b d_R_thingAt_2 (by decide) ?_
  refine lv_iload_n X.x X.b d_R_thingAt_3 rfl (lv_at hl 0 rfl) ?_
  refine lv_imul X.x X.b d_R_thingAt_4 ?_
  rw [pk_mul]
  refine lv_iadd X.x X.b d_R_thingAt_5 ?_
  rw [nI_add]
  refine lv_iload_n X.x X.b d_R_thingAt_6 rfl (lv_at hl 1 rfl) ?_
  refine lv_iadd X.x X.b d_R_thingAt_7 ?_
  rw [nI_add]
  exact q_zret X rfl hW ⟨rfl, rfl⟩ d_R_thingAt_8
set_option maxHeartbeats 1000000 in
set_option maxRecDepth 20000 in
theorem c_R_walkerAt (l : Launch) (E : QE) (S : QM) (t f : Nat) : qCI E l y_R_walkerAt prog_7_method_20_code 2 .int 1 [.int (nI t), .int (nI f)] S (nI (44 + 6 * t + f)) S := by
  refine qCI_of (by decide) (Nat.le_of_ble_eq_true rfl) (fun p e s m below meth c ls X hW hl => ?_)
  have hl : lv_has ls 2 [(0, .int (nI t)), (1, .int (nI f))] := hl
  refine lv_bipush (v := nI 44) X.x X.b d_R_walkerAt_0 (by decide) ?_
  refine lv_bipush (v := nI 6) X.x X.b d_R_walkerAt_2 (by decide) ?_
  refine lv_iload_n X.x X.b d_R_walkerAt_4 rfl (lv_at hl 0 rfl) ?_
  refine lv_imul X.x X.b d_R_walkerAt_5 ?_
  rw [pk_mul]
  refine lv_iadd X.x X.b d_R_walkerAt_6 ?_
  rw [nI_add]
  refine lv_iload_n X.x X.b d_R_walkerAt_7 rfl (lv_at hl 1 rfl) ?_
  refine lv_iadd X.x X.b d_R_walkerAt_8 ?_
  rw [nI_add]
  exact q_zret X rfl hW ⟨rfl, rfl⟩ d_R_walkerAt_9
set_option maxHeartbeats 1000000 in
set_option maxRecDepth 20000 in
theorem c_R_thingIs (l : Launch) (E : QE) (S : QM) (ν : Nat → Int32) (hν : S 16 = ν) (t f : Nat) (ht : t < 8) (hf : f < 3) : qCI E l y_R_thingIs prog_7_method_18_code 3 .int 2 [.ref (eA E 70), .int (nI t), .int (nI f)] S (ν (20 + 3 * t + f)) S := by
  refine qCI_of (by decide) (Nat.le_of_ble_eq_true rfl) (fun p e s m below meth c ls X hW hl => ?_)
  have hl : lv_has ls 3 [(0, .ref (eA E 70)), (1, .int (nI t)), (2, .int (nI f))] := hl
  refine lv_aload_n X.x X.b d_R_thingIs_0 rfl (lv_at hl 0 rfl) ?_
  refine q_getr X hW qj4 rfl _ ds_R 0 (by decide) mw_686 rfl (c1 := 71) rfl d_R_thingIs_1 ?_
  refine lv_iload_n X.x X.b d_R_thingIs_4 rfl (lv_at hl 1 rfl) ?_
  refine lv_iload_n X.x X.b d_R_thingIs_5 rfl (lv_at hl 2 rfl) ?_
  refine q_csi X (c_R_thingAt l E S t f) hW ok_R_thingAt mw_791 ⟨by decide, by decide⟩ (As := [.int (nI t), .int (nI f)]) rfl rfl (Nat.le_of_ble_eq_true rfl) (lv := [(0, .ref (eA E 70)), (1, .int (nI t)), (2, .int (nI f))]) hl ⟨Nat.le_refl 0, Nat.le_refl 0⟩ d_R_thingIs_6 (fun H locs hW => ?_)
  refine g_ald X hW ds_71 (q_in (by omega) (by decide)) (p0 := 20 + 3 * t + f) (q_tn (by omega) (by omega)) (v := ν (20 + 3 * t + f)) (by rw [hν]) d_R_thingIs_9 ?_
  exact q_zret X rfl hW ⟨rfl, rfl⟩ d_R_thingIs_10
set_option maxHeartbeats 1000000 in
set_option maxRecDepth 20000 in
theorem c_R_walkerIs (l : Launch) (E : QE) (S : QM) (ν : Nat → Int32) (hν : S 16 = ν) (t f : Nat) (ht : t < 6) (hf : f < 6) : qCI E l y_R_walkerIs prog_7_method_21_code 3 .int 2 [.ref (eA E 70), .int (nI t), .int (nI f)] S (ν (44 + 6 * t + f)) S := by
  refine qCI_of (by decide) (Nat.le_of_ble_eq_true rfl) (fun p e s m below meth c ls X hW hl => ?_)
  have hl : lv_has ls 3 [(0, .ref (eA E 70)), (1, .int (nI t)), (2, .int (nI f))] := hl
  refine lv_aload_n X.x X.b d_R_walkerIs_0 rfl (lv_at hl 0 rfl) ?_
  refine q_getr X hW qj4 rfl _ ds_R 0 (by decide) mw_686 rfl (c1 := 71) rfl d_R_walkerIs_1 ?_
  refine lv_iload_n X.x X.b d_R_walkerIs_4 rfl (lv_at hl 1 rfl) ?_
  refine lv_iload_n X.x X.b d_R_walkerIs_5 rfl (lv_at hl 2 rfl) ?_
  refine q_csi X (c_R_walkerAt l E S t f) hW ok_R_walkerAt mw_802 ⟨by decide, by decide⟩ (As := [.int (nI t), .int (nI f)]) rfl rfl (Nat.le_of_ble_eq_true rfl) (lv := [(0, .ref (eA E 70)), (1, .int (nI t)), (2, .int (nI f))]) hl ⟨Nat.le_refl 0, Nat.le_refl 0⟩ d_R_walkerIs_6 (fun H locs hW => ?_)
  refine g_ald X hW ds_71 (q_in (by omega) (by decide)) (p0 := 44 + 6 * t + f) (q_tn (by omega) (by omega)) (v := ν (44 + 6 * t + f)) (by rw [hν]) d_R_walkerIs_9 ?_
  exact q_zret X rfl hW ⟨rfl, rfl⟩ d_R_walkerIs_10
theorem c_R_thingAt_z (l : Launch) (E : QE) (S : QM) (t : Nat) : qCI E l y_R_thingAt prog_7_method_17_code 2 .int 1 [.int (nI t), .int (nI 0)] S (nI (20 + 3 * t)) S := c_R_thingAt l E S t 0
theorem c_R_walkerAt_z (l : Launch) (E : QE) (S : QM) (t : Nat) : qCI E l y_R_walkerAt prog_7_method_20_code 2 .int 1 [.int (nI t), .int (nI 0)] S (nI (44 + 6 * t)) S := c_R_walkerAt l E S t 0
theorem c_R_thingIs_z (l : Launch) (E : QE) (S : QM) (ν : Nat → Int32) (hν : S 16 = ν) (t : Nat) (ht : t < 8) : qCI E l y_R_thingIs prog_7_method_18_code 3 .int 2 [.ref (eA E 70), .int (nI t), .int (nI 0)] S (ν (20 + 3 * t)) S := c_R_thingIs l E S ν hν t 0 ht (by omega)
theorem c_R_walkerIs_z (l : Launch) (E : QE) (S : QM) (ν : Nat → Int32) (hν : S 16 = ν) (t : Nat) (ht : t < 6) : qCI E l y_R_walkerIs prog_7_method_21_code 3 .int 2 [.ref (eA E 70), .int (nI t), .int (nI 0)] S (ν (44 + 6 * t)) S := c_R_walkerIs l E S ν hν t 0 ht (by omega)
set_option maxHeartbeats 1000000 in
set_option maxRecDepth 20000 in
theorem c_R_placeNow (l : Launch) (E : QE) (S : QM) (ν : Nat → Int32) (hν : S 16 = ν) (hwf : WF ν)  : qCI E l y_R_placeNow prog_7_method_16_code 1 .int 1 [.ref (eA E 70)] S (nI (4 + nD ν % 6)) S := by
  refine qCI_of (by decide) (Nat.le_of_ble_eq_true rfl) (fun p e s m below meth c ls X hW hl => ?_)
  have hl : lv_has ls 1 [(0, .ref (eA E 70))] := hl
  have htl := hwf.tl
  have hwl := hwf.wl
  have hdl := hwf.dl
  refine lv_iconst (v := nI 4) X.x X.b d_R_placeNow_0 (by decide) ?_
  refine lv_aload_n X.x X.b d_R_placeNow_1 rfl (lv_at hl 0 rfl) ?_
  refine q_getr X hW qj4 rfl _ ds_R 0 (by decide) mw_686 rfl (c1 := 71) rfl d_R_placeNow_2 ?_
  refine lv_iconst (v := nI 0) X.x X.b d_R_placeNow_5 (by decide) ?_
  refine g_ald X hW ds_71 (q_in (by omega) (by decide)) (p0 := 0) (q_tn (by omega) (by omega)) (v := ν 0) (by rw [hν]) d_R_placeNow_6 ?_
  rw [hwf.d]
  refine lv_bipush (v := nI 6) X.x X.b d_R_placeNow_7 (by decide) ?_
  refine lv_irem X.x X.b d_R_placeNow_9 (by decide) ?_
  rw [pk_rem (by omega) (by decide) (by decide)]
  refine lv_iadd X.x X.b d_R_placeNow_10 ?_
  rw [nI_add]
  exact q_zret X rfl hW ⟨rfl, rfl⟩ d_R_placeNow_11
set_option maxHeartbeats 1000000 in
set_option maxRecDepth 20000 in
theorem c_R_comes (l : Launch) (E : QE) (S : QM) (ν : Nat → Int32) (hν : S 16 = ν) (hwf : WF ν) (kd cl : Int32) (hfull : nT ν < 8) : qCI E l y_R_comes prog_7_method_24_code 4 .int 2 [.ref (eA E 70), .int kd, .int cl] S (nI (nT ν)) (qr S 16 (addT ν kd cl)) := by
  refine qCI_of (by decide) (Nat.le_of_ble_eq_true rfl) (fun p e s m below meth c ls X hW hl => ?_)
  have hl : lv_has ls 4 [(0, .ref (eA E 70)), (1, .int kd), (2, .int cl)] := hl
  have htl := hwf.tl
  have hwl := hwf.wl
  have hdl := hwf.dl
  have kν_1 : ν 1 = nI (nT ν) := hwf.t
  refine lv_aload_n X.x X.b d_R_comes_0 rfl (lv_at hl 0 rfl) ?_
  refine q_getr X hW qj4 rfl _ ds_R 0 (by decide) mw_686 rfl (c1 := 71) rfl d_R_comes_1 ?_
  refine lv_iconst (v := nI 1) X.x X.b d_R_comes_4 (by decide) ?_
  refine g_ald X hW ds_71 (q_in (by omega) (by decide)) (p0 := 1) (q_tn (by omega) (by omega)) (v := ν 1) (by rw [hν]) d_R_comes_5 ?_
  rw [kν_1]
  refine lv_istore_n (lv' := [(3, .int (nI (nT ν))), (0, .ref (eA E 70)), (1, .int kd), (2, .int cl)]) X.x X.b d_R_comes_6 rfl hl (by decide) rfl (fun ls hl => ?_)
  refine lv_aload_n X.x X.b d_R_comes_7 rfl (lv_at hl 1 rfl) ?_
  refine q_getr X hW qj4 rfl _ ds_R 0 (by decide) mw_686 rfl (c1 := 71) rfl d_R_comes_8 ?_
  refine lv_iload_n X.x X.b d_R_comes_11 rfl (lv_at hl 0 rfl) ?_
  refine lv_iconst (v := nI 0) X.x X.b d_R_comes_12 (by decide) ?_
  refine q_csi X (c_R_thingAt_z l E S (nT ν)) hW ok_R_thingAt mw_791 ⟨by decide, by decide⟩ (As := [.int (nI (nT ν)), .int (nI 0)]) rfl rfl (Nat.le_of_ble_eq_true rfl) (lv := [(3, .int (nI (nT ν))), (0, .ref (eA E 70)), (1, .int kd), (2, .int cl)]) hl ⟨Nat.le_refl 0, Nat.le_refl 0⟩ d_R_comes_13 (fun H locs hW => ?_)
  refine lv_iload_n X.x X.b d_R_comes_16 rfl (lv_at hl 2 rfl) ?_
  refine g_ast X hW ds_71 (q_in (by omega) (by decide)) (p0 := 20 + 3 * (nT ν)) (q_tn (by omega) (by omega)) (ρ := ν) (by rw [hν]) d_R_comes_17 (fun H locs hW => ?_)
  obtain ⟨r17, er17⟩ : ∃ z, z = upd ν (20 + 3 * (nT ν)) kd := ⟨_, rfl⟩
  rw [← er17] at hW
  have kr17_1 : r17 1 = nI (nT ν) := by rw [er17, upN (by omega)]; exact kν_1
  refine lv_aload_n X.x X.b d_R_comes_18 rfl (lv_at hl 1 rfl) ?_
  refine q_getr X hW qj4 rfl _ ds_R 0 (by decide) mw_686 rfl (c1 := 71) rfl d_R_comes_19 ?_
  refine lv_iload_n X.x X.b d_R_comes_22 rfl (lv_at hl 0 rfl) ?_
  refine lv_iconst (v := nI 1) X.x X.b d_R_comes_23 (by decide) ?_
  refine q_csi X (c_R_thingAt l E (qr S 16 r17) (nT ν) 1) hW ok_R_thingAt mw_791 ⟨by decide, by decide⟩ (As := [.int (nI (nT ν)), .int (nI 1)]) rfl rfl (Nat.le_of_ble_eq_true rfl) (lv := [(3, .int (nI (nT ν))), (0, .ref (eA E 70)), (1, .int kd), (2, .int cl)]) hl ⟨Nat.le_refl 0, Nat.le_refl 0⟩ d_R_comes_24 (fun H locs hW => ?_)
  refine lv_iload_n X.x X.b d_R_comes_27 rfl (lv_at hl 3 rfl) ?_
  refine g_ast X hW ds_71 (q_in (by omega) (by decide)) (p0 := 20 + 3 * (nT ν) + 1) (q_tn (by omega) (by omega)) (ρ := r17) (by rw [qr_at]) d_R_comes_28 (fun H locs hW => ?_)
  obtain ⟨r28, er28⟩ : ∃ z, z = upd r17 (20 + 3 * (nT ν) + 1) cl := ⟨_, rfl⟩
  rw [← er28] at hW
  have kr28_1 : r28 1 = nI (nT ν) := by rw [er28, upN (by omega)]; exact kr17_1
  rw [qr_qr] at hW
  refine lv_aload_n X.x X.b d_R_comes_29 rfl (lv_at hl 1 rfl) ?_
  refine q_getr X hW qj4 rfl _ ds_R 0 (by decide) mw_686 rfl (c1 := 71) rfl d_R_comes_30 ?_
  refine lv_iload_n X.x X.b d_R_comes_33 rfl (lv_at hl 0 rfl) ?_
  refine lv_iconst (v := nI 2) X.x X.b d_R_comes_34 (by decide) ?_
  refine q_csi X (c_R_thingAt l E (qr S 16 r28) (nT ν) 2) hW ok_R_thingAt mw_791 ⟨by decide, by decide⟩ (As := [.int (nI (nT ν)), .int (nI 2)]) rfl rfl (Nat.le_of_ble_eq_true rfl) (lv := [(3, .int (nI (nT ν))), (0, .ref (eA E 70)), (1, .int kd), (2, .int cl)]) hl ⟨Nat.le_refl 0, Nat.le_refl 0⟩ d_R_comes_35 (fun H locs hW => ?_)
  refine lv_iconst (v := nI 0) X.x X.b d_R_comes_38 (by decide) ?_
  refine g_ast X hW ds_71 (q_in (by omega) (by decide)) (p0 := 20 + 3 * (nT ν) + 2) (q_tn (by omega) (by omega)) (ρ := r28) (by rw [qr_at]) d_R_comes_39 (fun H locs hW => ?_)
  obtain ⟨r39, er39⟩ : ∃ z, z = upd r28 (20 + 3 * (nT ν) + 2) (nI 0) := ⟨_, rfl⟩
  rw [← er39] at hW
  have kr39_1 : r39 1 = nI (nT ν) := by rw [er39, upN (by omega)]; exact kr28_1
  rw [qr_qr] at hW
  refine lv_aload_n X.x X.b d_R_comes_40 rfl (lv_at hl 1 rfl) ?_
  refine q_getr X hW qj4 rfl _ ds_R 0 (by decide) mw_686 rfl (c1 := 71) rfl d_R_comes_41 ?_
  refine lv_iconst (v := nI 1) X.x X.b d_R_comes_44 (by decide) ?_
  refine lv_dup2_11 X.x X.b d_R_comes_45 rfl rfl ?_
  refine g_ald X hW ds_71 (q_in (by omega) (by decide)) (p0 := 1) (q_tn (by omega) (by omega)) (v := r39 1) (by rw [qr_at]) d_R_comes_46 ?_
  rw [kr39_1]
  refine lv_iconst (v := nI 1) X.x X.b d_R_comes_47 (by decide) ?_
  refine lv_iadd X.x X.b d_R_comes_48 ?_
  rw [nI_add]
  refine g_ast X hW ds_71 (q_in (by omega) (by decide)) (p0 := 1) (q_tn (by omega) (by omega)) (ρ := r39) (by rw [qr_at]) d_R_comes_49 (fun H locs hW => ?_)
  obtain ⟨r49, er49⟩ : ∃ z, z = upd r39 1 (nI ((nT ν) + 1)) := ⟨_, rfl⟩
  rw [← er49] at hW
  have kr49_1 : r49 1 = nI ((nT ν) + 1) := by rw [er49, upd_at]
  rw [qr_qr] at hW
  refine lv_iload_n X.x X.b d_R_comes_50 rfl (lv_at hl 0 rfl) ?_
  exact q_zret X rfl hW ⟨rfl, by rw [er49, er39, er28, er17]; rfl⟩ d_R_comes_51
set_option maxHeartbeats 1000000 in
set_option maxRecDepth 20000 in
theorem c_R_setsOut (l : Launch) (E : QE) (S : QM) (ν : Nat → Int32) (hν : S 16 = ν) (hwf : WF ν) (cl am : Int32) (hfull : nW ν < 6) : qCI E l y_R_setsOut prog_7_method_26_code 5 .int 2 [.ref (eA E 70), .int cl, .int am] S (nI (nW ν)) (qr S 16 (addW ν cl am)) := by
  refine qCI_of (by decide) (Nat.le_of_ble_eq_true rfl) (fun p e s m below meth c ls X hW hl => ?_)
  have hl : lv_has ls 5 [(0, .ref (eA E 70)), (1, .int cl), (2, .int am)] := hl
  have htl := hwf.tl
  have hwl := hwf.wl
  have hdl := hwf.dl
  have kν_3 : ν 3 = nI (nW ν) := hwf.w
  refine lv_aload_n X.x X.b d_R_setsOut_0 rfl (lv_at hl 0 rfl) ?_
  refine q_getr X hW qj4 rfl _ ds_R 0 (by decide) mw_686 rfl (c1 := 71) rfl d_R_setsOut_1 ?_
  refine lv_iconst (v := nI 3) X.x X.b d_R_setsOut_4 (by decide) ?_
  refine g_ald X hW ds_71 (q_in (by omega) (by decide)) (p0 := 3) (q_tn (by omega) (by omega)) (v := ν 3) (by rw [hν]) d_R_setsOut_5 ?_
  rw [kν_3]
  refine lv_istore_n (lv' := [(3, .int (nI (nW ν))), (0, .ref (eA E 70)), (1, .int cl), (2, .int am)]) X.x X.b d_R_setsOut_6 rfl hl (by decide) rfl (fun ls hl => ?_)
  refine lv_iconst (v := nI 0) X.x X.b d_R_setsOut_7 (by decide) ?_
  refine lv_istore (lv' := [(4, .int (nI 0)), (3, .int (nI (nW ν))), (0, .ref (eA E 70)), (1, .int cl), (2, .int am)]) X.x X.b d_R_setsOut_8 hl (by decide) rfl (fun ls hl => ?_)
  have hW : qWH E (qr S 16 ν) s s.heap [] := by rw [← hν, qr_self]; exact hW
  have loop10 : ∀ (fu10 : Nat) (i : Nat) (μ : Nat → Int32), i ≤ 6 → μ = fo (fun f μ => upd μ (44 + 6 * nW ν + f) (nI 0)) i ν → μ 3 = nI (nW ν) → 6 - i < fu10 → ∀ (H : Heap) (locs : List Loc) (ls : Array Slot), qWH E (qr S 16 μ) s H locs → lv_has ls 5 [(4, .int (nI i)), (3, .int (nI (nW ν))), (0, .ref (eA E 70)), (1, .int cl), (2, .int am)] → W p l e (qRm 2) s m ([.ref (eA E 70), .int cl, .int am] : List Value).toArray below meth c H locs 0 0 (MQ below (qQi E (nI (nW ν)) (qr S 16 (addW ν cl am)) s.heap.size) ([.ref (eA E 70), .int cl, .int am] : List Value).toArray s 0 0 (qAA E s.heap.size)) (F0 m 10 ls []) := by
    intro fu10
    induction fu10 with
    | zero =>
      intro i μ hi hm kμ_3 hfu
      exact absurd hfu (Nat.not_lt_zero _)
    | succ fu10 ih10 =>
      intro i μ hi hm kμ_3 hfu H locs ls hW hl
      refine lv_iload X.x X.b d_R_setsOut_10 (lv_at hl 0 rfl) ?_
      refine lv_bipush (v := nI 6) X.x X.b d_R_setsOut_12 (by decide) ?_
      refine lv_icmp_ge (tgt := 35) X.x X.b d_R_setsOut_14 (by decide) (fun c14 => ?_) (fun c14 => ?_)
      · have c14 : 6 ≤ i := (nI_leI (a := 6) (b := i) (by omega) (by omega)).mp c14
        refine lv_aload_n X.x X.b d_R_setsOut_35 rfl (lv_at hl 2 rfl) ?_
        refine q_getr X hW qj4 rfl _ ds_R 0 (by decide) mw_686 rfl (c1 := 71) rfl d_R_setsOut_36 ?_
        refine lv_iload_n X.x X.b d_R_setsOut_39 rfl (lv_at hl 1 rfl) ?_
        refine lv_iconst (v := nI 0) X.x X.b d_R_setsOut_40 (by decide) ?_
        refine q_csi X (c_R_walkerAt_z l E (qr S 16 μ) (nW ν)) hW ok_R_walkerAt mw_802 ⟨by decide, by decide⟩ (As := [.int (nI (nW ν)), .int (nI 0)]) rfl rfl (Nat.le_of_ble_eq_true rfl) (lv := [(4, .int (nI i)), (3, .int (nI (nW ν))), (0, .ref (eA E 70)), (1, .int cl), (2, .int am)]) hl ⟨Nat.le_refl 0, Nat.le_refl 0⟩ d_R_setsOut_41 (fun H locs hW => ?_)
        refine lv_iload_n X.x X.b d_R_setsOut_44 rfl (lv_at hl 3 rfl) ?_
        refine g_ast X hW ds_71 (q_in (by omega) (by decide)) (p0 := 44 + 6 * (nW ν)) (q_tn (by omega) (by omega)) (ρ := μ) (by rw [qr_at]) d_R_setsOut_45 (fun H locs hW => ?_)
        obtain ⟨r45, er45⟩ : ∃ z, z = upd μ (44 + 6 * (nW ν)) cl := ⟨_, rfl⟩
        rw [← er45] at hW
        have kr45_3 : r45 3 = nI (nW ν) := by rw [er45, upN (by omega)]; exact kμ_3
        rw [qr_qr] at hW
        refine lv_aload_n X.x X.b d_R_setsOut_46 rfl (lv_at hl 2 rfl) ?_
        refine q_getr X hW qj4 rfl _ ds_R 0 (by decide) mw_686 rfl (c1 := 71) rfl d_R_setsOut_47 ?_
        refine lv_iload_n X.x X.b d_R_setsOut_50 rfl (lv_at hl 1 rfl) ?_
        refine lv_iconst (v := nI 1) X.x X.b d_R_setsOut_51 (by decide) ?_
        refine q_csi X (c_R_walkerAt l E (qr S 16 r45) (nW ν) 1) hW ok_R_walkerAt mw_802 ⟨by decide, by decide⟩ (As := [.int (nI (nW ν)), .int (nI 1)]) rfl rfl (Nat.le_of_ble_eq_true rfl) (lv := [(4, .int (nI i)), (3, .int (nI (nW ν))), (0, .ref (eA E 70)), (1, .int cl), (2, .int am)]) hl ⟨Nat.le_refl 0, Nat.le_refl 0⟩ d_R_setsOut_52 (fun H locs hW => ?_)
        refine lv_iload_n X.x X.b d_R_setsOut_55 rfl (lv_at hl 4 rfl) ?_
        refine g_ast X hW ds_71 (q_in (by omega) (by decide)) (p0 := 44 + 6 * (nW ν) + 1) (q_tn (by omega) (by omega)) (ρ := r45) (by rw [qr_at]) d_R_setsOut_56 (fun H locs hW => ?_)
        obtain ⟨r56, er56⟩ : ∃ z, z = upd r45 (44 + 6 * (nW ν) + 1) am := ⟨_, rfl⟩
        rw [← er56] at hW
        have kr56_3 : r56 3 = nI (nW ν) := by rw [er56, upN (by omega)]; exact kr45_3
        rw [qr_qr] at hW
        refine lv_aload_n X.x X.b d_R_setsOut_57 rfl (lv_at hl 2 rfl) ?_
        refine q_getr X hW qj4 rfl _ ds_R 0 (by decide) mw_686 rfl (c1 := 71) rfl d_R_setsOut_58 ?_
        refine lv_iload_n X.x X.b d_R_setsOut_61 rfl (lv_at hl 1 rfl) ?_
        refine lv_iconst (v := nI 2) X.x X.b d_R_setsOut_62 (by decide) ?_
        refine q_csi X (c_R_walkerAt l E (qr S 16 r56) (nW ν) 2) hW ok_R_walkerAt mw_802 ⟨by decide, by decide⟩ (As := [.int (nI (nW ν)), .int (nI 2)]) rfl rfl (Nat.le_of_ble_eq_true rfl) (lv := [(4, .int (nI i)), (3, .int (nI (nW ν))), (0, .ref (eA E 70)), (1, .int cl), (2, .int am)]) hl ⟨Nat.le_refl 0, Nat.le_refl 0⟩ d_R_setsOut_63 (fun H locs hW => ?_)
        refine lv_iconst (v := nI 2) X.x X.b d_R_setsOut_66 (by decide) ?_
        refine g_ast X hW ds_71 (q_in (by omega) (by decide)) (p0 := 44 + 6 * (nW ν) + 2) (q_tn (by omega) (by omega)) (ρ := r56) (by rw [qr_at]) d_R_setsOut_67 (fun H locs hW => ?_)
        obtain ⟨r67, er67⟩ : ∃ z, z = upd r56 (44 + 6 * (nW ν) + 2) (nI 2) := ⟨_, rfl⟩
        rw [← er67] at hW
        have kr67_3 : r67 3 = nI (nW ν) := by rw [er67, upN (by omega)]; exact kr56_3
        rw [qr_qr] at hW
        refine lv_aload_n X.x X.b d_R_setsOut_68 rfl (lv_at hl 2 rfl) ?_
        refine q_getr X hW qj4 rfl _ ds_R 0 (by decide) mw_686 rfl (c1 := 71) rfl d_R_setsOut_69 ?_
        refine lv_iconst (v := nI 3) X.x X.b d_R_setsOut_72 (by decide) ?_
        refine lv_dup2_11 X.x X.b d_R_setsOut_73 rfl rfl ?_
        refine g_ald X hW ds_71 (q_in (by omega) (by decide)) (p0 := 3) (q_tn (by omega) (by omega)) (v := r67 3) (by rw [qr_at]) d_R_setsOut_74 ?_
        rw [kr67_3]
        refine lv_iconst (v := nI 1) X.x X.b d_R_setsOut_75 (by decide) ?_
        refine lv_iadd X.x X.b d_R_setsOut_76 ?_
        rw [nI_add]
        refine g_ast X hW ds_71 (q_in (by omega) (by decide)) (p0 := 3) (q_tn (by omega) (by omega)) (ρ := r67) (by rw [qr_at]) d_R_setsOut_77 (fun H locs hW => ?_)
        obtain ⟨r77, er77⟩ : ∃ z, z = upd r67 3 (nI ((nW ν) + 1)) := ⟨_, rfl⟩
        rw [← er77] at hW
        have kr77_3 : r77 3 = nI ((nW ν) + 1) := by rw [er77, upd_at]
        rw [qr_qr] at hW
        refine lv_iload_n X.x X.b d_R_setsOut_78 rfl (lv_at hl 1 rfl) ?_
        exact q_zret X rfl hW ⟨rfl, by rw [er77, er67, er56, er45, hm, show i = 6 by omega, setsOut_e]⟩ d_R_setsOut_79
      · have c14 : ¬ 6 ≤ i := fun z => c14 ((nI_leI (a := 6) (b := i) (by omega) (by omega)).mpr z)
        refine lv_aload_n X.x X.b d_R_setsOut_17 rfl (lv_at hl 2 rfl) ?_
        refine q_getr X hW qj4 rfl _ ds_R 0 (by decide) mw_686 rfl (c1 := 71) rfl d_R_setsOut_18 ?_
        refine lv_iload_n X.x X.b d_R_setsOut_21 rfl (lv_at hl 1 rfl) ?_
        refine lv_iload X.x X.b d_R_setsOut_22 (lv_at hl 0 rfl) ?_
        refine q_csi X (c_R_walkerAt l E (qr S 16 μ) (nW ν) i) hW ok_R_walkerAt mw_802 ⟨by decide, by decide⟩ (As := [.int (nI (nW ν)), .int (nI i)]) rfl rfl (Nat.le_of_ble_eq_true rfl) (lv := [(4, .int (nI i)), (3, .int (nI (nW ν))), (0, .ref (eA E 70)), (1, .int cl), (2, .int am)]) hl ⟨Nat.le_refl 0, Nat.le_refl 0⟩ d_R_setsOut_24 (fun H locs hW => ?_)
        refine lv_iconst (v := nI 0) X.x X.b d_R_setsOut_27 (by decide) ?_
        refine g_ast X hW ds_71 (q_in (by omega) (by decide)) (p0 := 44 + 6 * (nW ν) + i) (q_tn (by omega) (by omega)) (ρ := μ) (by rw [qr_at]) d_R_setsOut_28 (fun H locs hW => ?_)
        obtain ⟨r28, er28⟩ : ∃ z, z = upd μ (44 + 6 * (nW ν) + i) (nI 0) := ⟨_, rfl⟩
        rw [← er28] at hW
        have kr28_3 : r28 3 = nI (nW ν) := by rw [er28, upN (by omega)]; exact kμ_3
        rw [qr_qr] at hW
        refine lv_iinc (v := nI (i + 1)) (lv' := [(4, .int (nI (i + 1))), (3, .int (nI (nW ν))), (0, .ref (eA E 70)), (1, .int cl), (2, .int am)]) X.x X.b d_R_setsOut_29 hl (k := 0) rfl (by rw [show Int32.ofInt 1 = nI 1 from by decide, nI_add]) (by decide) rfl (fun ls hl => ?_)
        refine lv_goto (tgt := 10) X.x X.b d_R_setsOut_32 (by decide) ?_
        exact ih10 (i + 1) r28 (by omega) (by rw [er28, hm]; rfl) kr28_3 (by omega) _ _ _ hW (lv_sub hl [0, 1, 2, 3, 4] rfl)
  exact loop10 (6 - 0 + 1) 0 ν (by omega) rfl kν_3 (Nat.lt_succ_self _) _ _ _ hW (lv_sub hl [0, 1, 2, 3, 4] rfl)
set_option maxHeartbeats 1000000 in
set_option maxRecDepth 20000 in
theorem c_R_clear (l : Launch) (E : QE) (S : QM) (ν : Nat → Int32) (hν : S 16 = ν) (t : Nat) (ht : t < 8) : qCI E l y_R_clear prog_7_method_28_code 2 .int 3 [.ref (eA E 70), .int (nI t)] S (clr (ν (20 + 3 * t))) S := by
  refine qCI_of (by decide) (Nat.le_of_ble_eq_true rfl) (fun p e s m below meth c ls X hW hl => ?_)
  have hl : lv_has ls 2 [(0, .ref (eA E 70)), (1, .int (nI t))] := hl
  refine lv_aload_n X.x X.b d_R_clear_0 rfl (lv_at hl 0 rfl) ?_
  refine lv_iload_n X.x X.b d_R_clear_1 rfl (lv_at hl 1 rfl) ?_
  refine lv_iconst (v := nI 0) X.x X.b d_R_clear_2 (by decide) ?_
  refine q_cvi X (c_R_thingIs_z l E S ν (by rw [hν]) t (by omega)) hW (q_recv X hW ds_R rfl) ok_R_thingIs mw_821 ⟨by decide, by decide⟩ (As := [.int (nI t), .int (nI 0)]) rfl rfl (Nat.le_of_ble_eq_true rfl) (lv := [(0, .ref (eA E 70)), (1, .int (nI t))]) hl ⟨Nat.le_refl 0, Nat.le_refl 0⟩ d_R_clear_3 (fun H locs hW => ?_)
  by_cases c6_1 : ν (20 + 3 * t) = nI 1
  · refine W.eq (congrArg (fun z => F0 m 6 ls (.int z :: [])) c6_1) ?_
    refine lv_tableIn (tgt := 44) (off := 38) X.x X.b d_R_clear_6 (by decide) (by decide) (by decide) (by decide) ?_
    refine lv_bipush (v := nI 15) X.x X.b d_R_clear_44 (by decide) ?_
    exact q_zret X rfl hW ⟨by simp_all [clr]; try rfl, rfl⟩ d_R_clear_46
  by_cases c6_2 : ν (20 + 3 * t) = nI 2
  · refine W.eq (congrArg (fun z => F0 m 6 ls (.int z :: [])) c6_2) ?_
    refine lv_tableIn (tgt := 50) (off := 44) X.x X.b d_R_clear_6 (by decide) (by decide) (by decide) (by decide) ?_
    refine lv_bipush (v := nI 6) X.x X.b d_R_clear_50 (by decide) ?_
    exact q_zret X rfl hW ⟨by simp_all [clr]; try rfl, rfl⟩ d_R_clear_52
  by_cases c6_3 : ν (20 + 3 * t) = nI 3
  · refine W.eq (congrArg (fun z => F0 m 6 ls (.int z :: [])) c6_3) ?_
    refine lv_tableIn (tgt := 53) (off := 47) X.x X.b d_R_clear_6 (by decide) (by decide) (by decide) (by decide) ?_
    refine lv_iconst (v := nI 3) X.x X.b d_R_clear_53 (by decide) ?_
    exact q_zret X rfl hW ⟨by simp_all [clr]; try rfl, rfl⟩ d_R_clear_54
  by_cases c6_4 : ν (20 + 3 * t) = nI 4
  · refine W.eq (congrArg (fun z => F0 m 6 ls (.int z :: [])) c6_4) ?_
    refine lv_tableIn (tgt := 55) (off := 49) X.x X.b d_R_clear_6 (by decide) (by decide) (by decide) (by decide) ?_
    refine lv_iconst (v := nI 2) X.x X.b d_R_clear_55 (by decide) ?_
    exact q_zret X rfl hW ⟨by simp_all [clr]; try rfl, rfl⟩ d_R_clear_56
  by_cases c6_5 : ν (20 + 3 * t) = nI 5
  · refine W.eq (congrArg (fun z => F0 m 6 ls (.int z :: [])) c6_5) ?_
    refine lv_tableIn (tgt := 57) (off := 51) X.x X.b d_R_clear_6 (by decide) (by decide) (by decide) (by decide) ?_
    refine lv_iconst (v := nI 0) X.x X.b d_R_clear_57 (by decide) ?_
    exact q_zret X rfl hW ⟨by simp_all [clr]; try rfl, rfl⟩ d_R_clear_58
  by_cases c6_6 : ν (20 + 3 * t) = nI 6
  · refine W.eq (congrArg (fun z => F0 m 6 ls (.int z :: [])) c6_6) ?_
    refine lv_tableIn (tgt := 47) (off := 41) X.x X.b d_R_clear_6 (by decide) (by decide) (by decide) (by decide) ?_
    refine lv_bipush (v := nI 7) X.x X.b d_R_clear_47 (by decide) ?_
    exact q_zret X rfl hW ⟨by simp_all [clr]; try rfl, rfl⟩ d_R_clear_49
  refine lv_tableOut (tgt := 59) X.x X.b d_R_clear_6 (by have qc6_1 := lv_neT c6_1 (by decide : Int32.toInt (nI 1) = 1); have qc6_2 := lv_neT c6_2 (by decide : Int32.toInt (nI 2) = 2); have qc6_3 := lv_neT c6_3 (by decide : Int32.toInt (nI 3) = 3); have qc6_4 := lv_neT c6_4 (by decide : Int32.toInt (nI 4) = 4); have qc6_5 := lv_neT c6_5 (by decide : Int32.toInt (nI 5) = 5); have qc6_6 := lv_neT c6_6 (by decide : Int32.toInt (nI 6) = 6); omega) (by decide) ?_
  refine lv_iconst (v := nI 4) X.x X.b d_R_clear_59 (by decide) ?_
  exact q_zret X rfl hW ⟨by simp_all [clr]; try rfl, rfl⟩ d_R_clear_60
set_option maxHeartbeats 1000000 in
set_option maxRecDepth 20000 in
theorem c_R_dim (l : Launch) (E : QE) (S : QM) (ν : Nat → Int32) (hν : S 16 = ν) (t : Nat) (ht : t < 8) : qCI E l y_R_dim prog_7_method_29_code 2 .int 3 [.ref (eA E 70), .int (nI t)] S (dmm (ν (20 + 3 * t)) (ν (20 + 3 * t + 2)) (ν 0)) S := by
  refine qCI_of (by decide) (Nat.le_of_ble_eq_true rfl) (fun p e s m below meth c ls X hW hl => ?_)
  have hl : lv_has ls 2 [(0, .ref (eA E 70)), (1, .int (nI t))] := hl
  refine lv_aload_n X.x X.b d_R_dim_0 rfl (lv_at hl 0 rfl) ?_
  refine lv_iload_n X.x X.b d_R_dim_1 rfl (lv_at hl 1 rfl) ?_
  refine lv_iconst (v := nI 0) X.x X.b d_R_dim_2 (by decide) ?_
  refine q_cvi X (c_R_thingIs_z l E S ν (by rw [hν]) t (by omega)) hW (q_recv X hW ds_R rfl) ok_R_thingIs mw_821 ⟨by decide, by decide⟩ (As := [.int (nI t), .int (nI 0)]) rfl rfl (Nat.le_of_ble_eq_true rfl) (lv := [(0, .ref (eA E 70)), (1, .int (nI t))]) hl ⟨Nat.le_refl 0, Nat.le_refl 0⟩ d_R_dim_3 (fun H locs hW => ?_)
  by_cases c6_1 : ν (20 + 3 * t) = nI 1
  · refine W.eq (congrArg (fun z => F0 m 6 ls (.int z :: [])) c6_1) ?_
    refine lv_tableIn (tgt := 44) (off := 38) X.x X.b d_R_dim_6 (by decide) (by decide) (by decide) (by decide) ?_
    refine lv_iconst (v := nI 1) X.x X.b d_R_dim_44 (by decide) ?_
    exact q_zret X rfl hW ⟨by simp_all [dmm, ← Int32.not_lt]; try rfl, rfl⟩ d_R_dim_45
  by_cases c6_2 : ν (20 + 3 * t) = nI 2
  · refine W.eq (congrArg (fun z => F0 m 6 ls (.int z :: [])) c6_2) ?_
    refine lv_tableIn (tgt := 44) (off := 38) X.x X.b d_R_dim_6 (by decide) (by decide) (by decide) (by decide) ?_
    refine lv_iconst (v := nI 1) X.x X.b d_R_dim_44 (by decide) ?_
    exact q_zret X rfl hW ⟨by simp_all [dmm, ← Int32.not_lt]; try rfl, rfl⟩ d_R_dim_45
  by_cases c6_3 : ν (20 + 3 * t) = nI 3
  · refine W.eq (congrArg (fun z => F0 m 6 ls (.int z :: [])) c6_3) ?_
    refine lv_tableIn (tgt := 75) (off := 69) X.x X.b d_R_dim_6 (by decide) (by decide) (by decide) (by decide) ?_
    refine lv_iconst (v := nI 0) X.x X.b d_R_dim_75 (by decide) ?_
    exact q_zret X rfl hW ⟨by simp_all [dmm, ← Int32.not_lt]; try rfl, rfl⟩ d_R_dim_76
  by_cases c6_4 : ν (20 + 3 * t) = nI 4
  · refine W.eq (congrArg (fun z => F0 m 6 ls (.int z :: [])) c6_4) ?_
    refine lv_tableIn (tgt := 57) (off := 51) X.x X.b d_R_dim_6 (by decide) (by decide) (by decide) (by decide) ?_
    refine lv_aload_n X.x X.b d_R_dim_57 rfl (lv_at hl 0 rfl) ?_
    refine lv_iload_n X.x X.b d_R_dim_58 rfl (lv_at hl 1 rfl) ?_
    refine lv_iconst (v := nI 2) X.x X.b d_R_dim_59 (by decide) ?_
    refine q_cvi X (c_R_thingIs l E S ν (by rw [hν]) t 2 (by omega) (by omega)) hW (q_recv X hW ds_R rfl) ok_R_thingIs mw_821 ⟨by decide, by decide⟩ (As := [.int (nI t), .int (nI 2)]) rfl rfl (Nat.le_of_ble_eq_true rfl) (lv := [(0, .ref (eA E 70)), (1, .int (nI t))]) hl ⟨Nat.le_refl 0, Nat.le_refl 0⟩ d_R_dim_60 (fun H locs hW => ?_)
    refine lv_iconst (v := nI 3) X.x X.b d_R_dim_63 (by decide) ?_
    refine lv_icmp_lt (tgt := 71) X.x X.b d_R_dim_64 (by decide) (fun c64 => ?_) (fun c64 => ?_)
    · refine lv_iconst (v := nI 0) X.x X.b d_R_dim_71 (by decide) ?_
      exact q_zret X rfl hW ⟨by simp_all [dmm, ← Int32.not_lt]; try rfl, rfl⟩ d_R_dim_72
    · refine lv_iconst (v := nI 2) X.x X.b d_R_dim_67 (by decide) ?_
      refine lv_goto (tgt := 72) X.x X.b d_R_dim_68 (by decide) ?_
      exact q_zret X rfl hW ⟨by simp_all [dmm, ← Int32.not_lt]; try rfl, rfl⟩ d_R_dim_72
  by_cases c6_5 : ν (20 + 3 * t) = nI 5
  · refine W.eq (congrArg (fun z => F0 m 6 ls (.int z :: [])) c6_5) ?_
    refine lv_tableIn (tgt := 73) (off := 67) X.x X.b d_R_dim_6 (by decide) (by decide) (by decide) (by decide) ?_
    refine lv_iconst (v := nI 5) X.x X.b d_R_dim_73 (by decide) ?_
    exact q_zret X rfl hW ⟨by simp_all [dmm, ← Int32.not_lt]; try rfl, rfl⟩ d_R_dim_74
  by_cases c6_6 : ν (20 + 3 * t) = nI 6
  · refine W.eq (congrArg (fun z => F0 m 6 ls (.int z :: [])) c6_6) ?_
    refine lv_tableIn (tgt := 46) (off := 40) X.x X.b d_R_dim_6 (by decide) (by decide) (by decide) (by decide) ?_
    refine lv_iconst (v := nI 1) X.x X.b d_R_dim_46 (by decide) ?_
    refine lv_aload_n X.x X.b d_R_dim_47 rfl (lv_at hl 0 rfl) ?_
    refine q_getr X hW qj4 rfl _ ds_R 0 (by decide) mw_686 rfl (c1 := 71) rfl d_R_dim_48 ?_
    refine lv_iconst (v := nI 0) X.x X.b d_R_dim_51 (by decide) ?_
    refine g_ald X hW ds_71 (q_in (by omega) (by decide)) (p0 := 0) (q_tn (by omega) (by omega)) (v := ν 0) (by rw [hν]) d_R_dim_52 ?_
    refine lv_iconst (v := nI 2) X.x X.b d_R_dim_53 (by decide) ?_
    refine lv_irem X.x X.b d_R_dim_54 (by decide) ?_
    refine lv_iadd X.x X.b d_R_dim_55 ?_
    exact q_zret X rfl hW ⟨by simp_all [dmm, ← Int32.not_lt]; try rfl, rfl⟩ d_R_dim_56
  refine lv_tableOut (tgt := 75) X.x X.b d_R_dim_6 (by have qc6_1 := lv_neT c6_1 (by decide : Int32.toInt (nI 1) = 1); have qc6_2 := lv_neT c6_2 (by decide : Int32.toInt (nI 2) = 2); have qc6_3 := lv_neT c6_3 (by decide : Int32.toInt (nI 3) = 3); have qc6_4 := lv_neT c6_4 (by decide : Int32.toInt (nI 4) = 4); have qc6_5 := lv_neT c6_5 (by decide : Int32.toInt (nI 5) = 5); have qc6_6 := lv_neT c6_6 (by decide : Int32.toInt (nI 6) = 6); omega) (by decide) ?_
  refine lv_iconst (v := nI 0) X.x X.b d_R_dim_75 (by decide) ?_
  exact q_zret X rfl hW ⟨by simp_all [dmm, ← Int32.not_lt]; try rfl, rfl⟩ d_R_dim_76
set_option maxHeartbeats 1000000 in
set_option maxRecDepth 20000 in
theorem c_R_moves (l : Launch) (E : QE) (S : QM) (ν : Nat → Int32) (hν : S 16 = ν) (t : Nat) (ht : t < 8) : qCI E l y_R_moves prog_7_method_30_code 3 .int 3 [.ref (eA E 70), .int (nI t)] S (mvs (ν (20 + 3 * t)) (ν 0)) S := by
  refine qCI_of (by decide) (Nat.le_of_ble_eq_true rfl) (fun p e s m below meth c ls X hW hl => ?_)
  have hl : lv_has ls 3 [(0, .ref (eA E 70)), (1, .int (nI t))] := hl
  refine lv_aload_n X.x X.b d_R_moves_0 rfl (lv_at hl 0 rfl) ?_
  refine q_getr X hW qj4 rfl _ ds_R 0 (by decide) mw_686 rfl (c1 := 71) rfl d_R_moves_1 ?_
  refine lv_iconst (v := nI 0) X.x X.b d_R_moves_4 (by decide) ?_
  refine g_ald X hW ds_71 (q_in (by omega) (by decide)) (p0 := 0) (q_tn (by omega) (by omega)) (v := ν 0) (by rw [hν]) d_R_moves_5 ?_
  refine lv_iconst (v := nI 3) X.x X.b d_R_moves_6 (by decide) ?_
  refine lv_irem X.x X.b d_R_moves_7 (by decide) ?_
  refine lv_if_ne (tgt := 15) X.x X.b d_R_moves_8 (by decide) (fun c8 => ?_) (fun c8 => ?_)
  · refine lv_iconst (v := nI 0) X.x X.b d_R_moves_15 (by decide) ?_
    refine lv_istore_n (lv' := [(2, .int (nI 0)), (0, .ref (eA E 70)), (1, .int (nI t))]) X.x X.b d_R_moves_16 rfl hl (by decide) rfl (fun ls hl => ?_)
    refine lv_aload_n X.x X.b d_R_moves_17 rfl (lv_at hl 1 rfl) ?_
    refine lv_iload_n X.x X.b d_R_moves_18 rfl (lv_at hl 2 rfl) ?_
    refine lv_iconst (v := nI 0) X.x X.b d_R_moves_19 (by decide) ?_
    refine q_cvi X (c_R_thingIs_z l E S ν (by rw [hν]) t (by omega)) hW (q_recv X hW ds_R rfl) ok_R_thingIs mw_821 ⟨by decide, by decide⟩ (As := [.int (nI t), .int (nI 0)]) rfl rfl (Nat.le_of_ble_eq_true rfl) (lv := [(2, .int (nI 0)), (0, .ref (eA E 70)), (1, .int (nI t))]) hl ⟨Nat.le_refl 0, Nat.le_refl 0⟩ d_R_moves_20 (fun H locs hW => ?_)
    by_cases c23_2 : ν (20 + 3 * t) = nI 2
    · refine W.eq (congrArg (fun z => F0 m 23 ls (.int z :: [])) c23_2) ?_
      refine lv_tableIn (tgt := 48) (off := 25) X.x X.b d_R_moves_23 (by decide) (by decide) (by decide) (by decide) ?_
      refine lv_iload_n X.x X.b d_R_moves_48 rfl (lv_at hl 0 rfl) ?_
      exact q_zret X rfl hW ⟨by simp_all [mvs, b2i]; try rfl, rfl⟩ d_R_moves_49
    by_cases c23_3 : ν (20 + 3 * t) = nI 3
    · refine W.eq (congrArg (fun z => F0 m 23 ls (.int z :: [])) c23_3) ?_
      refine lv_tableIn (tgt := 50) (off := 27) X.x X.b d_R_moves_23 (by decide) (by decide) (by decide) (by decide) ?_
      refine lv_iload_n X.x X.b d_R_moves_50 rfl (lv_at hl 0 rfl) ?_
      refine lv_iconst (v := nI 1) X.x X.b d_R_moves_51 (by decide) ?_
      refine lv_iadd X.x X.b d_R_moves_52 ?_
      rw [nI_add]
      exact q_zret X rfl hW ⟨by simp_all [mvs, b2i]; try rfl, rfl⟩ d_R_moves_53
    by_cases c23_4 : ν (20 + 3 * t) = nI 4
    · refine W.eq (congrArg (fun z => F0 m 23 ls (.int z :: [])) c23_4) ?_
      refine lv_tableIn (tgt := 54) (off := 31) X.x X.b d_R_moves_23 (by decide) (by decide) (by decide) (by decide) ?_
      refine lv_iconst (v := nI 2) X.x X.b d_R_moves_54 (by decide) ?_
      refine lv_iload_n X.x X.b d_R_moves_55 rfl (lv_at hl 0 rfl) ?_
      refine lv_iconst (v := nI 1) X.x X.b d_R_moves_56 (by decide) ?_
      refine lv_iadd X.x X.b d_R_moves_57 ?_
      rw [nI_add]
      refine lv_imul X.x X.b d_R_moves_58 ?_
      rw [pk_mul]
      exact q_zret X rfl hW ⟨by simp_all [mvs, b2i]; try rfl, rfl⟩ d_R_moves_59
    refine lv_tableOut (tgt := 60) X.x X.b d_R_moves_23 (by have qc23_2 := lv_neT c23_2 (by decide : Int32.toInt (nI 2) = 2); have qc23_3 := lv_neT c23_3 (by decide : Int32.toInt (nI 3) = 3); have qc23_4 := lv_neT c23_4 (by decide : Int32.toInt (nI 4) = 4); omega) (by decide) ?_
    refine lv_iconst (v := nI 0) X.x X.b d_R_moves_60 (by decide) ?_
    exact q_zret X rfl hW ⟨by simp_all [mvs, b2i]; try rfl, rfl⟩ d_R_moves_61
  · refine lv_iconst (v := nI 1) X.x X.b d_R_moves_11 (by decide) ?_
    refine lv_goto (tgt := 16) X.x X.b d_R_moves_12 (by decide) ?_
    refine lv_istore_n (lv' := [(2, .int (nI 1)), (0, .ref (eA E 70)), (1, .int (nI t))]) X.x X.b d_R_moves_16 rfl hl (by decide) rfl (fun ls hl => ?_)
    refine lv_aload_n X.x X.b d_R_moves_17 rfl (lv_at hl 1 rfl) ?_
    refine lv_iload_n X.x X.b d_R_moves_18 rfl (lv_at hl 2 rfl) ?_
    refine lv_iconst (v := nI 0) X.x X.b d_R_moves_19 (by decide) ?_
    refine q_cvi X (c_R_thingIs_z l E S ν (by rw [hν]) t (by omega)) hW (q_recv X hW ds_R rfl) ok_R_thingIs mw_821 ⟨by decide, by decide⟩ (As := [.int (nI t), .int (nI 0)]) rfl rfl (Nat.le_of_ble_eq_true rfl) (lv := [(2, .int (nI 1)), (0, .ref (eA E 70)), (1, .int (nI t))]) hl ⟨Nat.le_refl 0, Nat.le_refl 0⟩ d_R_moves_20 (fun H locs hW => ?_)
    by_cases c23_2 : ν (20 + 3 * t) = nI 2
    · refine W.eq (congrArg (fun z => F0 m 23 ls (.int z :: [])) c23_2) ?_
      refine lv_tableIn (tgt := 48) (off := 25) X.x X.b d_R_moves_23 (by decide) (by decide) (by decide) (by decide) ?_
      refine lv_iload_n X.x X.b d_R_moves_48 rfl (lv_at hl 0 rfl) ?_
      exact q_zret X rfl hW ⟨by simp_all [mvs, b2i]; try rfl, rfl⟩ d_R_moves_49
    by_cases c23_3 : ν (20 + 3 * t) = nI 3
    · refine W.eq (congrArg (fun z => F0 m 23 ls (.int z :: [])) c23_3) ?_
      refine lv_tableIn (tgt := 50) (off := 27) X.x X.b d_R_moves_23 (by decide) (by decide) (by decide) (by decide) ?_
      refine lv_iload_n X.x X.b d_R_moves_50 rfl (lv_at hl 0 rfl) ?_
      refine lv_iconst (v := nI 1) X.x X.b d_R_moves_51 (by decide) ?_
      refine lv_iadd X.x X.b d_R_moves_52 ?_
      rw [nI_add]
      exact q_zret X rfl hW ⟨by simp_all [mvs, b2i]; try rfl, rfl⟩ d_R_moves_53
    by_cases c23_4 : ν (20 + 3 * t) = nI 4
    · refine W.eq (congrArg (fun z => F0 m 23 ls (.int z :: [])) c23_4) ?_
      refine lv_tableIn (tgt := 54) (off := 31) X.x X.b d_R_moves_23 (by decide) (by decide) (by decide) (by decide) ?_
      refine lv_iconst (v := nI 2) X.x X.b d_R_moves_54 (by decide) ?_
      refine lv_iload_n X.x X.b d_R_moves_55 rfl (lv_at hl 0 rfl) ?_
      refine lv_iconst (v := nI 1) X.x X.b d_R_moves_56 (by decide) ?_
      refine lv_iadd X.x X.b d_R_moves_57 ?_
      rw [nI_add]
      refine lv_imul X.x X.b d_R_moves_58 ?_
      rw [pk_mul]
      exact q_zret X rfl hW ⟨by simp_all [mvs, b2i]; try rfl, rfl⟩ d_R_moves_59
    refine lv_tableOut (tgt := 60) X.x X.b d_R_moves_23 (by have qc23_2 := lv_neT c23_2 (by decide : Int32.toInt (nI 2) = 2); have qc23_3 := lv_neT c23_3 (by decide : Int32.toInt (nI 3) = 3); have qc23_4 := lv_neT c23_4 (by decide : Int32.toInt (nI 4) = 4); omega) (by decide) ?_
    refine lv_iconst (v := nI 0) X.x X.b d_R_moves_60 (by decide) ?_
    exact q_zret X rfl hW ⟨by simp_all [mvs, b2i]; try rfl, rfl⟩ d_R_moves_61
set_option maxHeartbeats 1000000 in
set_option maxRecDepth 20000 in
theorem c_R_touches (l : Launch) (E : QE) (S : QM) (ν : Nat → Int32) (hν : S 16 = ν) (t : Nat) (ht : t < 8) (d : Int32) (hcd : d = nI 0 ∨ d = nI 1) : qCI E l y_R_touches prog_7_method_31_code 3 .boolean 3 [.ref (eA E 70), .int (nI t), .int d] S (tch (ν (20 + 3 * t)) d) S := by
  refine qCI_of (by decide) (Nat.le_of_ble_eq_true rfl) (fun p e s m below meth c ls X hW hl => ?_)
  have hl : lv_has ls 3 [(0, .ref (eA E 70)), (1, .int (nI t)), (2, .int d)] := hl
  refine lv_aload_n X.x X.b d_R_touches_0 rfl (lv_at hl 0 rfl) ?_
  refine lv_iload_n X.x X.b d_R_touches_1 rfl (lv_at hl 1 rfl) ?_
  refine lv_iconst (v := nI 0) X.x X.b d_R_touches_2 (by decide) ?_
  refine q_cvi X (c_R_thingIs_z l E S ν (by rw [hν]) t (by omega)) hW (q_recv X hW ds_R rfl) ok_R_thingIs mw_821 ⟨by decide, by decide⟩ (As := [.int (nI t), .int (nI 0)]) rfl rfl (Nat.le_of_ble_eq_true rfl) (lv := [(0, .ref (eA E 70)), (1, .int (nI t)), (2, .int d)]) hl ⟨Nat.le_refl 0, Nat.le_refl 0⟩ d_R_touches_3 (fun H locs hW => ?_)
  by_cases c6_1 : ν (20 + 3 * t) = nI 1
  · refine W.eq (congrArg (fun z => F0 m 6 ls (.int z :: [])) c6_1) ?_
    refine lv_tableIn (tgt := 44) (off := 38) X.x X.b d_R_touches_6 (by decide) (by decide) (by decide) (by decide) ?_
    refine lv_iconst (v := nI 0) X.x X.b d_R_touches_44 (by decide) ?_
    exact q_zret X (by decide) hW ⟨by simp_all [tch, b2i]; try rfl, rfl⟩ d_R_touches_45
  by_cases c6_2 : ν (20 + 3 * t) = nI 2
  · refine W.eq (congrArg (fun z => F0 m 6 ls (.int z :: [])) c6_2) ?_
    refine lv_tableIn (tgt := 58) (off := 52) X.x X.b d_R_touches_6 (by decide) (by decide) (by decide) (by decide) ?_
    refine lv_iload_n X.x X.b d_R_touches_58 rfl (lv_at hl 2 rfl) ?_
    exact q_zret X (by rcases hcd with h | h <;> rw [h] <;> rfl) hW ⟨by simp_all [tch, b2i]; try rfl, rfl⟩ d_R_touches_59
  by_cases c6_3 : ν (20 + 3 * t) = nI 3
  · refine W.eq (congrArg (fun z => F0 m 6 ls (.int z :: [])) c6_3) ?_
    refine lv_tableIn (tgt := 46) (off := 40) X.x X.b d_R_touches_6 (by decide) (by decide) (by decide) (by decide) ?_
    refine lv_iconst (v := nI 1) X.x X.b d_R_touches_46 (by decide) ?_
    exact q_zret X (by decide) hW ⟨by simp_all [tch, b2i]; try rfl, rfl⟩ d_R_touches_47
  by_cases c6_4 : ν (20 + 3 * t) = nI 4
  · refine W.eq (congrArg (fun z => F0 m 6 ls (.int z :: [])) c6_4) ?_
    refine lv_tableIn (tgt := 48) (off := 42) X.x X.b d_R_touches_6 (by decide) (by decide) (by decide) (by decide) ?_
    refine lv_iload_n X.x X.b d_R_touches_48 rfl (lv_at hl 2 rfl) ?_
    refine lv_if_ne (tgt := 56) X.x X.b d_R_touches_49 (by decide) (fun c49 => ?_) (fun c49 => ?_)
    · refine lv_iconst (v := nI 0) X.x X.b d_R_touches_56 (by decide) ?_
      exact q_zret X (by decide) hW ⟨by simp_all [tch, b2i]; try rfl, rfl⟩ d_R_touches_57
    · refine lv_iconst (v := nI 1) X.x X.b d_R_touches_52 (by decide) ?_
      refine lv_goto (tgt := 57) X.x X.b d_R_touches_53 (by decide) ?_
      exact q_zret X (by decide) hW ⟨by simp_all [tch, b2i]; try rfl, rfl⟩ d_R_touches_57
  by_cases c6_5 : ν (20 + 3 * t) = nI 5
  · refine W.eq (congrArg (fun z => F0 m 6 ls (.int z :: [])) c6_5) ?_
    refine lv_tableIn (tgt := 44) (off := 38) X.x X.b d_R_touches_6 (by decide) (by decide) (by decide) (by decide) ?_
    refine lv_iconst (v := nI 0) X.x X.b d_R_touches_44 (by decide) ?_
    exact q_zret X (by decide) hW ⟨by simp_all [tch, b2i]; try rfl, rfl⟩ d_R_touches_45
  by_cases c6_6 : ν (20 + 3 * t) = nI 6
  · refine W.eq (congrArg (fun z => F0 m 6 ls (.int z :: [])) c6_6) ?_
    refine lv_tableIn (tgt := 44) (off := 38) X.x X.b d_R_touches_6 (by decide) (by decide) (by decide) (by decide) ?_
    refine lv_iconst (v := nI 0) X.x X.b d_R_touches_44 (by decide) ?_
    exact q_zret X (by decide) hW ⟨by simp_all [tch, b2i]; try rfl, rfl⟩ d_R_touches_45
  refine lv_tableOut (tgt := 58) X.x X.b d_R_touches_6 (by have qc6_1 := lv_neT c6_1 (by decide : Int32.toInt (nI 1) = 1); have qc6_2 := lv_neT c6_2 (by decide : Int32.toInt (nI 2) = 2); have qc6_3 := lv_neT c6_3 (by decide : Int32.toInt (nI 3) = 3); have qc6_4 := lv_neT c6_4 (by decide : Int32.toInt (nI 4) = 4); have qc6_5 := lv_neT c6_5 (by decide : Int32.toInt (nI 5) = 5); have qc6_6 := lv_neT c6_6 (by decide : Int32.toInt (nI 6) = 6); omega) (by decide) ?_
  refine lv_iload_n X.x X.b d_R_touches_58 rfl (lv_at hl 2 rfl) ?_
  exact q_zret X (by rcases hcd with h | h <;> rw [h] <;> rfl) hW ⟨by simp_all [tch, b2i]; try rfl, rfl⟩ d_R_touches_59
set_option maxHeartbeats 1000000 in
set_option maxRecDepth 20000 in
theorem c_R_told_0 (l : Launch) (E : QE) (S : QM) (ν : Nat → Int32) (hν : S 16 = ν) (t : Nat) (ht : t < 8) : qCI E l y_R_told prog_7_method_32_code 3 .int 4 [.ref (eA E 70), .int (nI t), .int (nI 0)] S (ν (20 + 3 * t)) S := by
  refine qCI_of (by decide) (Nat.le_of_ble_eq_true rfl) (fun p e s m below meth c ls X hW hl => ?_)
  have hl : lv_has ls 3 [(0, .ref (eA E 70)), (1, .int (nI t)), (2, .int (nI 0))] := hl
  refine lv_iload_n X.x X.b d_R_told_0 rfl (lv_at hl 2 rfl) ?_
  refine lv_tableOut (tgt := 46) X.x X.b d_R_told_1 (by decide) (by decide) ?_
  refine lv_aload_n X.x X.b d_R_told_46 rfl (lv_at hl 0 rfl) ?_
  refine lv_iload_n X.x X.b d_R_told_47 rfl (lv_at hl 1 rfl) ?_
  refine lv_iload_n X.x X.b d_R_told_48 rfl (lv_at hl 2 rfl) ?_
  refine q_cvi X (c_R_thingIs_z l E S ν (by rw [hν]) t (by omega)) hW (q_recv X hW ds_R rfl) ok_R_thingIs mw_821 ⟨by decide, by decide⟩ (As := [.int (nI t), .int (nI 0)]) rfl rfl (Nat.le_of_ble_eq_true rfl) (lv := [(0, .ref (eA E 70)), (1, .int (nI t)), (2, .int (nI 0))]) hl ⟨Nat.le_refl 0, Nat.le_refl 0⟩ d_R_told_49 (fun H locs hW => ?_)
  exact q_zret X rfl hW ⟨rfl, rfl⟩ d_R_told_52
set_option maxHeartbeats 1000000 in
set_option maxRecDepth 20000 in
theorem c_R_told_1 (l : Launch) (E : QE) (S : QM) (ν : Nat → Int32) (hν : S 16 = ν) (t : Nat) (ht : t < 8) : qCI E l y_R_told prog_7_method_32_code 3 .int 4 [.ref (eA E 70), .int (nI t), .int (nI 1)] S (ν (20 + 3 * t + 1)) S := by
  refine qCI_of (by decide) (Nat.le_of_ble_eq_true rfl) (fun p e s m below meth c ls X hW hl => ?_)
  have hl : lv_has ls 3 [(0, .ref (eA E 70)), (1, .int (nI t)), (2, .int (nI 1))] := hl
  refine lv_iload_n X.x X.b d_R_told_0 rfl (lv_at hl 2 rfl) ?_
  refine lv_tableOut (tgt := 46) X.x X.b d_R_told_1 (by decide) (by decide) ?_
  refine lv_aload_n X.x X.b d_R_told_46 rfl (lv_at hl 0 rfl) ?_
  refine lv_iload_n X.x X.b d_R_told_47 rfl (lv_at hl 1 rfl) ?_
  refine lv_iload_n X.x X.b d_R_told_48 rfl (lv_at hl 2 rfl) ?_
  refine q_cvi X (c_R_thingIs l E S ν (by rw [hν]) t 1 (by omega) (by omega)) hW (q_recv X hW ds_R rfl) ok_R_thingIs mw_821 ⟨by decide, by decide⟩ (As := [.int (nI t), .int (nI 1)]) rfl rfl (Nat.le_of_ble_eq_true rfl) (lv := [(0, .ref (eA E 70)), (1, .int (nI t)), (2, .int (nI 1))]) hl ⟨Nat.le_refl 0, Nat.le_refl 0⟩ d_R_told_49 (fun H locs hW => ?_)
  exact q_zret X rfl hW ⟨rfl, rfl⟩ d_R_told_52
set_option maxHeartbeats 1000000 in
set_option maxRecDepth 20000 in
theorem c_R_told_2 (l : Launch) (E : QE) (S : QM) (ν : Nat → Int32) (hν : S 16 = ν) (t : Nat) (ht : t < 8) : qCI E l y_R_told prog_7_method_32_code 3 .int 4 [.ref (eA E 70), .int (nI t), .int (nI 2)] S (ν (20 + 3 * t + 2)) S := by
  refine qCI_of (by decide) (Nat.le_of_ble_eq_true rfl) (fun p e s m below meth c ls X hW hl => ?_)
  have hl : lv_has ls 3 [(0, .ref (eA E 70)), (1, .int (nI t)), (2, .int (nI 2))] := hl
  refine lv_iload_n X.x X.b d_R_told_0 rfl (lv_at hl 2 rfl) ?_
  refine lv_tableOut (tgt := 46) X.x X.b d_R_told_1 (by decide) (by decide) ?_
  refine lv_aload_n X.x X.b d_R_told_46 rfl (lv_at hl 0 rfl) ?_
  refine lv_iload_n X.x X.b d_R_told_47 rfl (lv_at hl 1 rfl) ?_
  refine lv_iload_n X.x X.b d_R_told_48 rfl (lv_at hl 2 rfl) ?_
  refine q_cvi X (c_R_thingIs l E S ν (by rw [hν]) t 2 (by omega) (by omega)) hW (q_recv X hW ds_R rfl) ok_R_thingIs mw_821 ⟨by decide, by decide⟩ (As := [.int (nI t), .int (nI 2)]) rfl rfl (Nat.le_of_ble_eq_true rfl) (lv := [(0, .ref (eA E 70)), (1, .int (nI t)), (2, .int (nI 2))]) hl ⟨Nat.le_refl 0, Nat.le_refl 0⟩ d_R_told_49 (fun H locs hW => ?_)
  exact q_zret X rfl hW ⟨rfl, rfl⟩ d_R_told_52
set_option maxHeartbeats 1000000 in
set_option maxRecDepth 20000 in
theorem c_R_told_3 (l : Launch) (E : QE) (S : QM) (ν : Nat → Int32) (hν : S 16 = ν) (t : Nat) (ht : t < 8) : qCI E l y_R_told prog_7_method_32_code 3 .int 4 [.ref (eA E 70), .int (nI t), .int (nI 3)] S (clr (ν (20 + 3 * t))) S := by
  refine qCI_of (by decide) (Nat.le_of_ble_eq_true rfl) (fun p e s m below meth c ls X hW hl => ?_)
  have hl : lv_has ls 3 [(0, .ref (eA E 70)), (1, .int (nI t)), (2, .int (nI 3))] := hl
  refine lv_iload_n X.x X.b d_R_told_0 rfl (lv_at hl 2 rfl) ?_
  refine lv_tableIn (tgt := 28) (off := 27) X.x X.b d_R_told_1 (by decide) (by decide) (by decide) (by decide) ?_
  refine lv_aload_n X.x X.b d_R_told_28 rfl (lv_at hl 0 rfl) ?_
  refine lv_iload_n X.x X.b d_R_told_29 rfl (lv_at hl 1 rfl) ?_
  refine q_cvi X (c_R_clear l E S ν (by rw [hν]) t (by omega)) hW (q_recv X hW ds_R rfl) ok_R_clear mw_817 ⟨by decide, by decide⟩ (As := [.int (nI t)]) rfl rfl (Nat.le_of_ble_eq_true rfl) (lv := [(0, .ref (eA E 70)), (1, .int (nI t)), (2, .int (nI 3))]) hl ⟨Nat.le_refl 0, Nat.le_refl 0⟩ d_R_told_30 (fun H locs hW => ?_)
  exact q_zret X rfl hW ⟨rfl, rfl⟩ d_R_told_33
set_option maxHeartbeats 1000000 in
set_option maxRecDepth 20000 in
theorem c_R_told_4 (l : Launch) (E : QE) (S : QM) (ν : Nat → Int32) (hν : S 16 = ν) (t : Nat) (ht : t < 8) : qCI E l y_R_told prog_7_method_32_code 3 .int 4 [.ref (eA E 70), .int (nI t), .int (nI 4)] S (dmm (ν (20 + 3 * t)) (ν (20 + 3 * t + 2)) (ν 0)) S := by
  refine qCI_of (by decide) (Nat.le_of_ble_eq_true rfl) (fun p e s m below meth c ls X hW hl => ?_)
  have hl : lv_has ls 3 [(0, .ref (eA E 70)), (1, .int (nI t)), (2, .int (nI 4))] := hl
  refine lv_iload_n X.x X.b d_R_told_0 rfl (lv_at hl 2 rfl) ?_
  refine lv_tableIn (tgt := 34) (off := 33) X.x X.b d_R_told_1 (by decide) (by decide) (by decide) (by decide) ?_
  refine lv_aload_n X.x X.b d_R_told_34 rfl (lv_at hl 0 rfl) ?_
  refine lv_iload_n X.x X.b d_R_told_35 rfl (lv_at hl 1 rfl) ?_
  refine q_cvi X (c_R_dim l E S ν (by rw [hν]) t (by omega)) hW (q_recv X hW ds_R rfl) ok_R_dim mw_825 ⟨by decide, by decide⟩ (As := [.int (nI t)]) rfl rfl (Nat.le_of_ble_eq_true rfl) (lv := [(0, .ref (eA E 70)), (1, .int (nI t)), (2, .int (nI 4))]) hl ⟨Nat.le_refl 0, Nat.le_refl 0⟩ d_R_told_36 (fun H locs hW => ?_)
  exact q_zret X rfl hW ⟨rfl, rfl⟩ d_R_told_39
set_option maxHeartbeats 1000000 in
set_option maxRecDepth 20000 in
theorem c_R_told_5 (l : Launch) (E : QE) (S : QM) (ν : Nat → Int32) (hν : S 16 = ν) (t : Nat) (ht : t < 8) : qCI E l y_R_told prog_7_method_32_code 3 .int 4 [.ref (eA E 70), .int (nI t), .int (nI 5)] S (mvs (ν (20 + 3 * t)) (ν 0)) S := by
  refine qCI_of (by decide) (Nat.le_of_ble_eq_true rfl) (fun p e s m below meth c ls X hW hl => ?_)
  have hl : lv_has ls 3 [(0, .ref (eA E 70)), (1, .int (nI t)), (2, .int (nI 5))] := hl
  refine lv_iload_n X.x X.b d_R_told_0 rfl (lv_at hl 2 rfl) ?_
  refine lv_tableIn (tgt := 40) (off := 39) X.x X.b d_R_told_1 (by decide) (by decide) (by decide) (by decide) ?_
  refine lv_aload_n X.x X.b d_R_told_40 rfl (lv_at hl 0 rfl) ?_
  refine lv_iload_n X.x X.b d_R_told_41 rfl (lv_at hl 1 rfl) ?_
  refine q_cvi X (c_R_moves l E S ν (by rw [hν]) t (by omega)) hW (q_recv X hW ds_R rfl) ok_R_moves mw_829 ⟨by decide, by decide⟩ (As := [.int (nI t)]) rfl rfl (Nat.le_of_ble_eq_true rfl) (lv := [(0, .ref (eA E 70)), (1, .int (nI t)), (2, .int (nI 5))]) hl ⟨Nat.le_refl 0, Nat.le_refl 0⟩ d_R_told_42 (fun H locs hW => ?_)
  exact q_zret X rfl hW ⟨rfl, rfl⟩ d_R_told_45
set_option maxHeartbeats 1000000 in
set_option maxRecDepth 20000 in
theorem c_R_doesCare (l : Launch) (E : QE) (S : QM) (ν : Nat → Int32) (hν : S 16 = ν) (w t : Nat) (hw : w < 6) (ht : t < 8) : qCI E l y_R_doesCare prog_7_method_38_code 3 .boolean 3 [.ref (eA E 70), .int (nI w), .int (nI t)] S (b2i (care (ν (44 + 6 * w + 3)) t)) S := by
  refine qCI_of (by decide) (Nat.le_of_ble_eq_true rfl) (fun p e s m below meth c ls X hW hl => ?_)
  have hl : lv_has ls 3 [(0, .ref (eA E 70)), (1, .int (nI w)), (2, .int (nI t))] := hl
  refine lv_aload_n X.x X.b d_R_doesCare_0 rfl (lv_at hl 0 rfl) ?_
  refine lv_iload_n X.x X.b d_R_doesCare_1 rfl (lv_at hl 1 rfl) ?_
  refine lv_iconst (v := nI 3) X.x X.b d_R_doesCare_2 (by decide) ?_
  refine q_cvi X (c_R_walkerIs l E S ν (by rw [hν]) w 3 (by omega) (by omega)) hW (q_recv X hW ds_R rfl) ok_R_walkerIs mw_845 ⟨by decide, by decide⟩ (As := [.int (nI w), .int (nI 3)]) rfl rfl (Nat.le_of_ble_eq_true rfl) (lv := [(0, .ref (eA E 70)), (1, .int (nI w)), (2, .int (nI t))]) hl ⟨Nat.le_refl 0, Nat.le_refl 0⟩ d_R_doesCare_3 (fun H locs hW => ?_)
  refine lv_iload_n X.x X.b d_R_doesCare_6 rfl (lv_at hl 2 rfl) ?_
  refine lv_ishr X.x X.b d_R_doesCare_7 ?_
  refine lv_iconst (v := nI 1) X.x X.b d_R_doesCare_8 (by decide) ?_
  refine lv_iand X.x X.b d_R_doesCare_9 ?_
  refine lv_iconst (v := nI 1) X.x X.b d_R_doesCare_10 (by decide) ?_
  refine lv_icmp_ne (tgt := 18) X.x X.b d_R_doesCare_11 (by decide) (fun c11 => ?_) (fun c11 => ?_)
  · refine lv_iconst (v := nI 0) X.x X.b d_R_doesCare_18 (by decide) ?_
    exact q_zret X (by decide) hW ⟨(b2i_f c11).symm, rfl⟩ d_R_doesCare_19
  · refine lv_iconst (v := nI 1) X.x X.b d_R_doesCare_14 (by decide) ?_
    refine lv_goto (tgt := 19) X.x X.b d_R_doesCare_15 (by decide) ?_
    exact q_zret X (by decide) hW ⟨(b2i_t c11).symm, rfl⟩ d_R_doesCare_19
set_option maxHeartbeats 1000000 in
set_option maxRecDepth 20000 in
theorem c_R_doesSee (l : Launch) (E : QE) (S : QM) (ν : Nat → Int32) (hν : S 16 = ν) (w t : Nat) (hw : w < 6) (ht : t < 8) : qCI E l y_R_doesSee prog_7_method_39_code 4 .boolean 4 [.ref (eA E 70), .int (nI w), .int (nI t)] S (b2i (see ν w t)) S := by
  refine qCI_of (by decide) (Nat.le_of_ble_eq_true rfl) (fun p e s m below meth c ls X hW hl => ?_)
  have hl : lv_has ls 4 [(0, .ref (eA E 70)), (1, .int (nI w)), (2, .int (nI t))] := hl
  refine lv_aload_n X.x X.b d_R_doesSee_0 rfl (lv_at hl 0 rfl) ?_
  refine lv_iload_n X.x X.b d_R_doesSee_1 rfl (lv_at hl 1 rfl) ?_
  refine lv_iconst (v := nI 0) X.x X.b d_R_doesSee_2 (by decide) ?_
  refine q_cvi X (c_R_walkerIs_z l E S ν (by rw [hν]) w (by omega)) hW (q_recv X hW ds_R rfl) ok_R_walkerIs mw_845 ⟨by decide, by decide⟩ (As := [.int (nI w), .int (nI 0)]) rfl rfl (Nat.le_of_ble_eq_true rfl) (lv := [(0, .ref (eA E 70)), (1, .int (nI w)), (2, .int (nI t))]) hl ⟨Nat.le_refl 0, Nat.le_refl 0⟩ d_R_doesSee_3 (fun H locs hW => ?_)
  refine lv_aload_n X.x X.b d_R_doesSee_6 rfl (lv_at hl 0 rfl) ?_
  refine lv_iload_n X.x X.b d_R_doesSee_7 rfl (lv_at hl 2 rfl) ?_
  refine lv_iconst (v := nI 1) X.x X.b d_R_doesSee_8 (by decide) ?_
  refine q_cvi X (c_R_thingIs l E S ν (by rw [hν]) t 1 (by omega) (by omega)) hW (q_recv X hW ds_R rfl) ok_R_thingIs mw_821 ⟨by decide, by decide⟩ (As := [.int (nI t), .int (nI 1)]) rfl rfl (Nat.le_of_ble_eq_true rfl) (lv := [(0, .ref (eA E 70)), (1, .int (nI w)), (2, .int (nI t))]) hl ⟨Nat.le_refl 0, Nat.le_refl 0⟩ d_R_doesSee_9 (fun H locs hW => ?_)
  refine lv_isub X.x X.b d_R_doesSee_12 ?_
  refine va_mabs X.x X.b (X.ml.trans hl.1.symm) X.ow (X.ts _ mw_870) (X.ts _ (qTB_in (i := 288) (by decide +kernel) rfl)) (X.ts _ (qTB_in (i := 73) (by decide +kernel) rfl)) (X.ts _ (qTB_in (i := 289) (by decide +kernel) rfl)) (by decide) (Nat.le_of_ble_eq_true rfl) (Nat.le_refl 0) (Nat.le_refl 0) d_R_doesSee_13 ?_
  refine lv_topi (fun x13 ex13 => ?_)
  refine lv_istore_n (lv' := [(3, .int x13), (0, .ref (eA E 70)), (1, .int (nI w)), (2, .int (nI t))]) X.x X.b d_R_doesSee_16 rfl hl (by decide) rfl (fun ls hl => ?_)
  refine lv_iload_n X.x X.b d_R_doesSee_17 rfl (lv_at hl 0 rfl) ?_
  refine lv_aload_n X.x X.b d_R_doesSee_18 rfl (lv_at hl 1 rfl) ?_
  refine lv_iload_n X.x X.b d_R_doesSee_19 rfl (lv_at hl 2 rfl) ?_
  refine lv_iload_n X.x X.b d_R_doesSee_20 rfl (lv_at hl 3 rfl) ?_
  refine q_cvi X (c_R_doesCare l E S ν (by rw [hν]) w t (by omega) (by omega)) hW (q_recv X hW ds_R rfl) ok_R_doesCare mw_871 ⟨by decide, by decide⟩ (As := [.int (nI w), .int (nI t)]) rfl rfl (Nat.le_of_ble_eq_true rfl) (lv := [(3, .int x13), (0, .ref (eA E 70)), (1, .int (nI w)), (2, .int (nI t))]) hl ⟨Nat.le_refl 0, Nat.le_refl 0⟩ d_R_doesSee_21 (fun H locs hW => ?_)
  refine lv_if_eq (tgt := 35) X.x X.b d_R_doesSee_24 (by decide) (fun c24 => ?_) (fun c24 => ?_)
  · have c24 := b2i_e c24
    refine lv_aload_n X.x X.b d_R_doesSee_35 rfl (lv_at hl 1 rfl) ?_
    refine lv_iload_n X.x X.b d_R_doesSee_36 rfl (lv_at hl 3 rfl) ?_
    refine q_cvi X (c_R_clear l E S ν (by rw [hν]) t (by omega)) hW (q_recv X hW ds_R rfl) ok_R_clear mw_817 ⟨by decide, by decide⟩ (As := [.int (nI t)]) rfl rfl (Nat.le_of_ble_eq_true rfl) (lv := [(3, .int x13), (0, .ref (eA E 70)), (1, .int (nI w)), (2, .int (nI t))]) hl ⟨Nat.le_refl 0, Nat.le_refl 0⟩ d_R_doesSee_37 (fun H locs hW => ?_)
    refine lv_icmp_gt (tgt := 47) X.x X.b d_R_doesSee_40 (by decide) (fun c40 => ?_) (fun c40 => ?_)
    · refine lv_iconst (v := nI 0) X.x X.b d_R_doesSee_47 (by decide) ?_
      exact q_zret X (by decide) hW ⟨(b2i_f (fun z => by have z1 : iab _ ≤ sght ν w t := z; unfold sght at z1; (first | rw [if_pos c24] at z1 | rw [if_neg c24] at z1); unfold iab at z1; rw [← ex13] at z1; exact Int32.not_lt.mpr z1 c40)).symm, rfl⟩ d_R_doesSee_48
    · refine lv_iconst (v := nI 1) X.x X.b d_R_doesSee_43 (by decide) ?_
      refine lv_goto (tgt := 48) X.x X.b d_R_doesSee_44 (by decide) ?_
      exact q_zret X (by decide) hW ⟨(b2i_t (by show iab _ ≤ sght ν w t; unfold sght; (first | rw [if_pos c24] | rw [if_neg c24]); unfold iab; rw [← ex13]; exact Int32.not_lt.mp c40)).symm, rfl⟩ d_R_doesSee_48
  · have c24 := b2i_n c24
    refine lv_aload_n X.x X.b d_R_doesSee_27 rfl (lv_at hl 1 rfl) ?_
    refine lv_iload_n X.x X.b d_R_doesSee_28 rfl (lv_at hl 3 rfl) ?_
    refine q_cvi X (c_R_dim l E S ν (by rw [hν]) t (by omega)) hW (q_recv X hW ds_R rfl) ok_R_dim mw_825 ⟨by decide, by decide⟩ (As := [.int (nI t)]) rfl rfl (Nat.le_of_ble_eq_true rfl) (lv := [(3, .int x13), (0, .ref (eA E 70)), (1, .int (nI w)), (2, .int (nI t))]) hl ⟨Nat.le_refl 0, Nat.le_refl 0⟩ d_R_doesSee_29 (fun H locs hW => ?_)
    refine lv_goto (tgt := 40) X.x X.b d_R_doesSee_32 (by decide) ?_
    refine lv_icmp_gt (tgt := 47) X.x X.b d_R_doesSee_40 (by decide) (fun c40 => ?_) (fun c40 => ?_)
    · refine lv_iconst (v := nI 0) X.x X.b d_R_doesSee_47 (by decide) ?_
      exact q_zret X (by decide) hW ⟨(b2i_f (fun z => by have z1 : iab _ ≤ sght ν w t := z; unfold sght at z1; (first | rw [if_pos c24] at z1 | rw [if_neg c24] at z1); unfold iab at z1; rw [← ex13] at z1; exact Int32.not_lt.mpr z1 c40)).symm, rfl⟩ d_R_doesSee_48
    · refine lv_iconst (v := nI 1) X.x X.b d_R_doesSee_43 (by decide) ?_
      refine lv_goto (tgt := 48) X.x X.b d_R_doesSee_44 (by decide) ?_
      exact q_zret X (by decide) hW ⟨(b2i_t (by show iab _ ≤ sght ν w t; unfold sght; (first | rw [if_pos c24] | rw [if_neg c24]); unfold iab; rw [← ex13]; exact Int32.not_lt.mp c40)).symm, rfl⟩ d_R_doesSee_48
set_option maxHeartbeats 1000000 in
set_option maxRecDepth 20000 in
theorem c_R_seers (l : Launch) (E : QE) (S : QM) (ν : Nat → Int32) (hν : S 16 = ν) (hwf : WF ν) (t : Nat) (ht : t < nT ν) : qCI E l y_R_seers prog_7_method_41_code 4 .int 5 [.ref (eA E 70), .int (nI t)] S (snbS ν t) S := by
  refine qCI_of (by decide) (Nat.le_of_ble_eq_true rfl) (fun p e s m below meth c ls X hW hl => ?_)
  have hl : lv_has ls 4 [(0, .ref (eA E 70)), (1, .int (nI t))] := hl
  have htl := hwf.tl
  have hwl := hwf.wl
  have hdl := hwf.dl
  refine lv_iconst (v := nI 0) X.x X.b d_R_seers_0 (by decide) ?_
  refine lv_istore_n (lv' := [(2, .int (nI 0)), (0, .ref (eA E 70)), (1, .int (nI t))]) X.x X.b d_R_seers_1 rfl hl (by decide) rfl (fun ls hl => ?_)
  refine lv_iconst (v := nI 0) X.x X.b d_R_seers_2 (by decide) ?_
  refine lv_istore_n (lv' := [(3, .int (nI 0)), (2, .int (nI 0)), (0, .ref (eA E 70)), (1, .int (nI t))]) X.x X.b d_R_seers_3 rfl hl (by decide) rfl (fun ls hl => ?_)
  have loop4 : ∀ (fu4 : Nat) (j : Nat) (a : Int32), j ≤ nW ν → a = fo (fun i a => if see ν i t then a ||| bt i else a) j (nI 0) → nW ν - j < fu4 → ∀ (H : Heap) (locs : List Loc) (ls : Array Slot), qWH E S s H locs → lv_has ls 4 [(3, .int (nI j)), (2, .int a), (0, .ref (eA E 70)), (1, .int (nI t))] → W p l e (qRm 5) s m ([.ref (eA E 70), .int (nI t)] : List Value).toArray below meth c H locs 0 0 (MQ below (qQi E (snbS ν t) S s.heap.size) ([.ref (eA E 70), .int (nI t)] : List Value).toArray s 0 0 (qAA E s.heap.size)) (F0 m 4 ls []) := by
    intro fu4
    induction fu4 with
    | zero =>
      intro j a hj ha hfu
      exact absurd hfu (Nat.not_lt_zero _)
    | succ fu4 ih4 =>
      intro j a hj ha hfu H locs ls hW hl
      refine lv_iload_n X.x X.b d_R_seers_4 rfl (lv_at hl 0 rfl) ?_
      refine lv_aload_n X.x X.b d_R_seers_5 rfl (lv_at hl 2 rfl) ?_
      refine q_getr X hW qj4 rfl _ ds_R 0 (by decide) mw_686 rfl (c1 := 71) rfl d_R_seers_6 ?_
      refine lv_iconst (v := nI 3) X.x X.b d_R_seers_9 (by decide) ?_
      refine g_ald X hW ds_71 (q_in (by omega) (by decide)) (p0 := 3) (q_tn (by omega) (by omega)) (v := ν 3) (by rw [hν]) d_R_seers_10 ?_
      rw [hwf.w]
      refine lv_icmp_ge (tgt := 39) X.x X.b d_R_seers_11 (by decide) (fun c11 => ?_) (fun c11 => ?_)
      · have c11 : (nW ν) ≤ j := (nI_leI (a := (nW ν)) (b := j) (by omega) (by omega)).mp c11
        refine lv_iload_n X.x X.b d_R_seers_39 rfl (lv_at hl 1 rfl) ?_
        exact q_zret X rfl hW ⟨by rw [ha, show j = nW ν by omega]; rfl, rfl⟩ d_R_seers_40
      · have c11 : ¬ (nW ν) ≤ j := fun z => c11 ((nI_leI (a := (nW ν)) (b := j) (by omega) (by omega)).mpr z)
        refine lv_iload_n X.x X.b d_R_seers_14 rfl (lv_at hl 1 rfl) ?_
        refine lv_aload_n X.x X.b d_R_seers_15 rfl (lv_at hl 2 rfl) ?_
        refine lv_iload_n X.x X.b d_R_seers_16 rfl (lv_at hl 0 rfl) ?_
        refine lv_iload_n X.x X.b d_R_seers_17 rfl (lv_at hl 3 rfl) ?_
        refine q_cvi X (c_R_doesSee l E S ν (by rw [hν]) j t (by omega) (by omega)) hW (q_recv X hW ds_R rfl) ok_R_doesSee mw_866 ⟨by decide, by decide⟩ (As := [.int (nI j), .int (nI t)]) rfl rfl (Nat.le_of_ble_eq_true rfl) (lv := [(3, .int (nI j)), (2, .int a), (0, .ref (eA E 70)), (1, .int (nI t))]) hl ⟨Nat.le_refl 0, Nat.le_refl 0⟩ d_R_seers_18 (fun H locs hW => ?_)
        refine lv_if_eq (tgt := 30) X.x X.b d_R_seers_21 (by decide) (fun c21 => ?_) (fun c21 => ?_)
        · have c21 := b2i_e c21
          refine lv_iconst (v := nI 0) X.x X.b d_R_seers_30 (by decide) ?_
          refine lv_ior X.x X.b d_R_seers_31 ?_
          refine lv_istore_n (lv' := [(2, .int (a ||| (nI 0))), (3, .int (nI j)), (0, .ref (eA E 70)), (1, .int (nI t))]) X.x X.b d_R_seers_32 rfl hl (by decide) rfl (fun ls hl => ?_)
          refine lv_iinc (v := nI (j + 1)) (lv' := [(3, .int (nI (j + 1))), (2, .int (a ||| (nI 0))), (0, .ref (eA E 70)), (1, .int (nI t))]) X.x X.b d_R_seers_33 hl (k := 1) rfl (by rw [show Int32.ofInt 1 = nI 1 from by decide, nI_add]) (by decide) rfl (fun ls hl => ?_)
          refine lv_goto (tgt := 4) X.x X.b d_R_seers_36 (by decide) ?_
          exact ih4 (j + 1) (a ||| (nI 0)) (by omega) (by rw [fo_succ, ← ha]; first | exact (if_pos c21).symm | (rw [if_neg c21]; exact or0)) (by omega) _ _ _ hW (lv_sub hl [0, 1, 2, 3] rfl)
        · have c21 := b2i_n c21
          refine lv_iconst (v := nI 1) X.x X.b d_R_seers_24 (by decide) ?_
          refine lv_iload_n X.x X.b d_R_seers_25 rfl (lv_at hl 0 rfl) ?_
          refine lv_ishl X.x X.b d_R_seers_26 ?_
          refine lv_goto (tgt := 31) X.x X.b d_R_seers_27 (by decide) ?_
          refine lv_ior X.x X.b d_R_seers_31 ?_
          refine lv_istore_n (lv' := [(2, .int (a ||| ((nI 1) <<< ((nI j) &&& 31)))), (3, .int (nI j)), (0, .ref (eA E 70)), (1, .int (nI t))]) X.x X.b d_R_seers_32 rfl hl (by decide) rfl (fun ls hl => ?_)
          refine lv_iinc (v := nI (j + 1)) (lv' := [(3, .int (nI (j + 1))), (2, .int (a ||| ((nI 1) <<< ((nI j) &&& 31)))), (0, .ref (eA E 70)), (1, .int (nI t))]) X.x X.b d_R_seers_33 hl (k := 1) rfl (by rw [show Int32.ofInt 1 = nI 1 from by decide, nI_add]) (by decide) rfl (fun ls hl => ?_)
          refine lv_goto (tgt := 4) X.x X.b d_R_seers_36 (by decide) ?_
          exact ih4 (j + 1) (a ||| ((nI 1) <<< ((nI j) &&& 31))) (by omega) (by rw [fo_succ, ← ha]; first | exact (if_pos c21).symm | (rw [if_neg c21]; exact or0)) (by omega) _ _ _ hW (lv_sub hl [0, 1, 2, 3] rfl)
  exact loop4 (nW ν - 0 + 1) 0 (nI 0) (by omega) rfl (Nat.lt_succ_self _) _ _ _ hW (lv_sub hl [0, 1, 2, 3] rfl)
set_option maxHeartbeats 1000000 in
set_option maxRecDepth 20000 in
theorem c_R_isGuided (l : Launch) (E : QE) (S : QM) (ν : Nat → Int32) (hν : S 16 = ν) (hwf : WF ν) (w t : Nat) (hw : w < nW ν) (ht : t < nT ν) : qCI E l y_R_isGuided prog_7_method_43_code 5 .boolean 5 [.ref (eA E 70), .int (nI w), .int (nI t)] S (b2i (fnd ν w t)) S := by
  refine qCI_of (by decide) (Nat.le_of_ble_eq_true rfl) (fun p e s m below meth c ls X hW hl => ?_)
  have hl : lv_has ls 5 [(0, .ref (eA E 70)), (1, .int (nI w)), (2, .int (nI t))] := hl
  have htl := hwf.tl
  have hwl := hwf.wl
  have hdl := hwf.dl
  refine lv_aload_n X.x X.b d_R_isGuided_0 rfl (lv_at hl 0 rfl) ?_
  refine lv_iload_n X.x X.b d_R_isGuided_1 rfl (lv_at hl 1 rfl) ?_
  refine lv_iload_n X.x X.b d_R_isGuided_2 rfl (lv_at hl 2 rfl) ?_
  refine q_cvi X (c_R_doesSee l E S ν (by rw [hν]) w t (by omega) (by omega)) hW (q_recv X hW ds_R rfl) ok_R_doesSee mw_866 ⟨by decide, by decide⟩ (As := [.int (nI w), .int (nI t)]) rfl rfl (Nat.le_of_ble_eq_true rfl) (lv := [(0, .ref (eA E 70)), (1, .int (nI w)), (2, .int (nI t))]) hl ⟨Nat.le_refl 0, Nat.le_refl 0⟩ d_R_isGuided_3 (fun H locs hW => ?_)
  refine lv_istore_n (lv' := [(3, .int (b2i (see ν w t))), (0, .ref (eA E 70)), (1, .int (nI w)), (2, .int (nI t))]) X.x X.b d_R_isGuided_6 rfl hl (by decide) rfl (fun ls hl => ?_)
  refine lv_iconst (v := nI 0) X.x X.b d_R_isGuided_7 (by decide) ?_
  refine lv_istore (lv' := [(4, .int (nI 0)), (3, .int (b2i (see ν w t))), (0, .ref (eA E 70)), (1, .int (nI w)), (2, .int (nI t))]) X.x X.b d_R_isGuided_8 hl (by decide) rfl (fun ls hl => ?_)
  have loop10 : ∀ (fu10 : Nat) (j : Nat) (a : Int32), j ≤ nW ν → a = b2i (GQ ν w t j) → nW ν - j < fu10 → ∀ (H : Heap) (locs : List Loc) (ls : Array Slot), qWH E S s H locs → lv_has ls 5 [(4, .int (nI j)), (3, .int a), (0, .ref (eA E 70)), (1, .int (nI w)), (2, .int (nI t))] → W p l e (qRm 5) s m ([.ref (eA E 70), .int (nI w), .int (nI t)] : List Value).toArray below meth c H locs 0 0 (MQ below (qQi E (b2i (fnd ν w t)) S s.heap.size) ([.ref (eA E 70), .int (nI w), .int (nI t)] : List Value).toArray s 0 0 (qAA E s.heap.size)) (F0 m 10 ls []) := by
    intro fu10
    induction fu10 with
    | zero =>
      intro j a hj ha hfu
      exact absurd hfu (Nat.not_lt_zero _)
    | succ fu10 ih10 =>
      intro j a hj ha hfu H locs ls hW hl
      refine lv_iload X.x X.b d_R_isGuided_10 (lv_at hl 0 rfl) ?_
      refine lv_aload_n X.x X.b d_R_isGuided_12 rfl (lv_at hl 2 rfl) ?_
      refine q_getr X hW qj4 rfl _ ds_R 0 (by decide) mw_686 rfl (c1 := 71) rfl d_R_isGuided_13 ?_
      refine lv_iconst (v := nI 3) X.x X.b d_R_isGuided_16 (by decide) ?_
      refine g_ald X hW ds_71 (q_in (by omega) (by decide)) (p0 := 3) (q_tn (by omega) (by omega)) (v := ν 3) (by rw [hν]) d_R_isGuided_17 ?_
      rw [hwf.w]
      refine lv_icmp_ge (tgt := 69) X.x X.b d_R_isGuided_18 (by decide) (fun c18 => ?_) (fun c18 => ?_)
      · have c18 : (nW ν) ≤ j := (nI_leI (a := (nW ν)) (b := j) (by omega) (by omega)).mp c18
        refine lv_iload_n X.x X.b d_R_isGuided_69 rfl (lv_at hl 1 rfl) ?_
        exact q_zret X (by rw [ha]; exact b2i_z) hW ⟨by rw [ha, show j = nW ν by omega]; exact b2i_c (GQ_e hw), rfl⟩ d_R_isGuided_70
      · have c18 : ¬ (nW ν) ≤ j := fun z => c18 ((nI_leI (a := (nW ν)) (b := j) (by omega) (by omega)).mpr z)
        refine lv_iload_n X.x X.b d_R_isGuided_21 rfl (lv_at hl 1 rfl) ?_
        refine lv_if_ne (tgt := 57) X.x X.b d_R_isGuided_22 (by decide) (fun c22 => ?_) (fun c22 => ?_)
        · refine lv_iconst (v := nI 1) X.x X.b d_R_isGuided_57 (by decide) ?_
          refine lv_goto (tgt := 62) X.x X.b d_R_isGuided_58 (by decide) ?_
          refine lv_istore_n (lv' := [(3, .int (nI 1)), (4, .int (nI j)), (0, .ref (eA E 70)), (1, .int (nI w)), (2, .int (nI t))]) X.x X.b d_R_isGuided_62 rfl hl (by decide) rfl (fun ls hl => ?_)
          refine lv_iinc (v := nI (j + 1)) (lv' := [(4, .int (nI (j + 1))), (3, .int (nI 1)), (0, .ref (eA E 70)), (1, .int (nI w)), (2, .int (nI t))]) X.x X.b d_R_isGuided_63 hl (k := 1) rfl (by rw [show Int32.ofInt 1 = nI 1 from by decide, nI_add]) (by decide) rfl (fun ls hl => ?_)
          refine lv_goto (tgt := 10) X.x X.b d_R_isGuided_66 (by decide) ?_
          exact ih10 (j + 1) (nI 1) (by omega) (by rw [b2i_t (GQ_s.mpr (Or.inl (b2i_n (by rw [← ha]; exact c22))))]) (by omega) _ _ _ hW (lv_sub hl [0, 1, 2, 3, 4] rfl)
        · refine lv_iload X.x X.b d_R_isGuided_25 (lv_at hl 0 rfl) ?_
          refine lv_iload_n X.x X.b d_R_isGuided_27 rfl (lv_at hl 3 rfl) ?_
          refine lv_icmp_eq (tgt := 61) X.x X.b d_R_isGuided_28 (by decide) (fun c28 => ?_) (fun c28 => ?_)
          · have c28 : j = w := (nI_eq (a := j) (b := w) (by omega) (by omega)).mp c28
            refine lv_iconst (v := nI 0) X.x X.b d_R_isGuided_61 (by decide) ?_
            refine lv_istore_n (lv' := [(3, .int (nI 0)), (4, .int (nI j)), (0, .ref (eA E 70)), (1, .int (nI w)), (2, .int (nI t))]) X.x X.b d_R_isGuided_62 rfl hl (by decide) rfl (fun ls hl => ?_)
            refine lv_iinc (v := nI (j + 1)) (lv' := [(4, .int (nI (j + 1))), (3, .int (nI 0)), (0, .ref (eA E 70)), (1, .int (nI w)), (2, .int (nI t))]) X.x X.b d_R_isGuided_63 hl (k := 1) rfl (by rw [show Int32.ofInt 1 = nI 1 from by decide, nI_add]) (by decide) rfl (fun ls hl => ?_)
            refine lv_goto (tgt := 10) X.x X.b d_R_isGuided_66 (by decide) ?_
            exact ih10 (j + 1) (nI 0) (by omega) (by rw [b2i_f (fun z => (GQ_s.mp z).elim (b2i_e (by rw [← ha]; exact c22)) (fun q => q.1 c28))]) (by omega) _ _ _ hW (lv_sub hl [0, 1, 2, 3, 4] rfl)
          · have c28 : ¬ j = w := fun z => c28 ((nI_eq (a := j) (b := w) (by omega) (by omega)).mpr z)
            refine lv_aload_n X.x X.b d_R_isGuided_31 rfl (lv_at hl 2 rfl) ?_
            refine lv_iload X.x X.b d_R_isGuided_32 (lv_at hl 0 rfl) ?_
            refine lv_iconst (v := nI 0) X.x X.b d_R_isGuided_34 (by decide) ?_
            refine q_cvi X (c_R_walkerIs_z l E S ν (by rw [hν]) j (by omega)) hW (q_recv X hW ds_R rfl) ok_R_walkerIs mw_845 ⟨by decide, by decide⟩ (As := [.int (nI j), .int (nI 0)]) rfl rfl (Nat.le_of_ble_eq_true rfl) (lv := [(4, .int (nI j)), (3, .int a), (0, .ref (eA E 70)), (1, .int (nI w)), (2, .int (nI t))]) hl ⟨Nat.le_refl 0, Nat.le_refl 0⟩ d_R_isGuided_35 (fun H locs hW => ?_)
            refine lv_aload_n X.x X.b d_R_isGuided_38 rfl (lv_at hl 2 rfl) ?_
            refine lv_iload_n X.x X.b d_R_isGuided_39 rfl (lv_at hl 3 rfl) ?_
            refine lv_iconst (v := nI 0) X.x X.b d_R_isGuided_40 (by decide) ?_
            refine q_cvi X (c_R_walkerIs_z l E S ν (by rw [hν]) w (by omega)) hW (q_recv X hW ds_R rfl) ok_R_walkerIs mw_845 ⟨by decide, by decide⟩ (As := [.int (nI w), .int (nI 0)]) rfl rfl (Nat.le_of_ble_eq_true rfl) (lv := [(4, .int (nI j)), (3, .int a), (0, .ref (eA E 70)), (1, .int (nI w)), (2, .int (nI t))]) hl ⟨Nat.le_refl 0, Nat.le_refl 0⟩ d_R_isGuided_41 (fun H locs hW => ?_)
            refine lv_icmp_ne (tgt := 61) X.x X.b d_R_isGuided_44 (by decide) (fun c44 => ?_) (fun c44 => ?_)
            · refine lv_iconst (v := nI 0) X.x X.b d_R_isGuided_61 (by decide) ?_
              refine lv_istore_n (lv' := [(3, .int (nI 0)), (4, .int (nI j)), (0, .ref (eA E 70)), (1, .int (nI w)), (2, .int (nI t))]) X.x X.b d_R_isGuided_62 rfl hl (by decide) rfl (fun ls hl => ?_)
              refine lv_iinc (v := nI (j + 1)) (lv' := [(4, .int (nI (j + 1))), (3, .int (nI 0)), (0, .ref (eA E 70)), (1, .int (nI w)), (2, .int (nI t))]) X.x X.b d_R_isGuided_63 hl (k := 1) rfl (by rw [show Int32.ofInt 1 = nI 1 from by decide, nI_add]) (by decide) rfl (fun ls hl => ?_)
              refine lv_goto (tgt := 10) X.x X.b d_R_isGuided_66 (by decide) ?_
              exact ih10 (j + 1) (nI 0) (by omega) (by rw [b2i_f (fun z => (GQ_s.mp z).elim (b2i_e (by rw [← ha]; exact c22)) (fun q => c44 q.2.1))]) (by omega) _ _ _ hW (lv_sub hl [0, 1, 2, 3, 4] rfl)
            · refine lv_aload_n X.x X.b d_R_isGuided_47 rfl (lv_at hl 2 rfl) ?_
              refine lv_iload X.x X.b d_R_isGuided_48 (lv_at hl 0 rfl) ?_
              refine lv_iload_n X.x X.b d_R_isGuided_50 rfl (lv_at hl 4 rfl) ?_
              refine q_cvi X (c_R_doesSee l E S ν (by rw [hν]) j t (by omega) (by omega)) hW (q_recv X hW ds_R rfl) ok_R_doesSee mw_866 ⟨by decide, by decide⟩ (As := [.int (nI j), .int (nI t)]) rfl rfl (Nat.le_of_ble_eq_true rfl) (lv := [(4, .int (nI j)), (3, .int a), (0, .ref (eA E 70)), (1, .int (nI w)), (2, .int (nI t))]) hl ⟨Nat.le_refl 0, Nat.le_refl 0⟩ d_R_isGuided_51 (fun H locs hW => ?_)
              refine lv_if_eq (tgt := 61) X.x X.b d_R_isGuided_54 (by decide) (fun c54 => ?_) (fun c54 => ?_)
              · have c54 := b2i_e c54
                refine lv_iconst (v := nI 0) X.x X.b d_R_isGuided_61 (by decide) ?_
                refine lv_istore_n (lv' := [(3, .int (nI 0)), (4, .int (nI j)), (0, .ref (eA E 70)), (1, .int (nI w)), (2, .int (nI t))]) X.x X.b d_R_isGuided_62 rfl hl (by decide) rfl (fun ls hl => ?_)
                refine lv_iinc (v := nI (j + 1)) (lv' := [(4, .int (nI (j + 1))), (3, .int (nI 0)), (0, .ref (eA E 70)), (1, .int (nI w)), (2, .int (nI t))]) X.x X.b d_R_isGuided_63 hl (k := 1) rfl (by rw [show Int32.ofInt 1 = nI 1 from by decide, nI_add]) (by decide) rfl (fun ls hl => ?_)
                refine lv_goto (tgt := 10) X.x X.b d_R_isGuided_66 (by decide) ?_
                exact ih10 (j + 1) (nI 0) (by omega) (by rw [b2i_f (fun z => (GQ_s.mp z).elim (b2i_e (by rw [← ha]; exact c22)) (fun q => c54 q.2.2))]) (by omega) _ _ _ hW (lv_sub hl [0, 1, 2, 3, 4] rfl)
              · have c54 := b2i_n c54
                refine lv_iconst (v := nI 1) X.x X.b d_R_isGuided_57 (by decide) ?_
                refine lv_goto (tgt := 62) X.x X.b d_R_isGuided_58 (by decide) ?_
                refine lv_istore_n (lv' := [(3, .int (nI 1)), (4, .int (nI j)), (0, .ref (eA E 70)), (1, .int (nI w)), (2, .int (nI t))]) X.x X.b d_R_isGuided_62 rfl hl (by decide) rfl (fun ls hl => ?_)
                refine lv_iinc (v := nI (j + 1)) (lv' := [(4, .int (nI (j + 1))), (3, .int (nI 1)), (0, .ref (eA E 70)), (1, .int (nI w)), (2, .int (nI t))]) X.x X.b d_R_isGuided_63 hl (k := 1) rfl (by rw [show Int32.ofInt 1 = nI 1 from by decide, nI_add]) (by decide) rfl (fun ls hl => ?_)
                refine lv_goto (tgt := 10) X.x X.b d_R_isGuided_66 (by decide) ?_
                exact ih10 (j + 1) (nI 1) (by omega) (by rw [b2i_t (GQ_s.mpr (Or.inr ⟨c28, c44, c54⟩))]) (by omega) _ _ _ hW (lv_sub hl [0, 1, 2, 3, 4] rfl)
  exact loop10 (nW ν - 0 + 1) 0 (b2i (see ν w t)) (by omega) (b2i_c ⟨fun z => Or.inl z, fun z => z.elim id (fun ⟨o, ho, _⟩ => absurd ho (Nat.not_lt_zero o))⟩) (Nat.lt_succ_self _) _ _ _ hW (lv_sub hl [0, 1, 2, 3, 4] rfl)
set_option maxHeartbeats 1000000 in
set_option maxRecDepth 20000 in
theorem c_R_more (l : Launch) (E : QE) (S : QM) (ν : Nat → Int32) (hν : S 16 = ν) (pl : Nat) (b h : Int32) (hp : pl < 80) : qCV E l y_R_more prog_7_method_44_code 4 1 [.ref (eA E 70), .int (nI pl), .int b, .int h] S (qr S 16 (moreS ν pl b h)) := by
  refine qCV_of (by decide) (Nat.le_of_ble_eq_true rfl) (fun p e s m below meth c ls X hW hl => ?_)
  have hl : lv_has ls 4 [(0, .ref (eA E 70)), (1, .int (nI pl)), (2, .int b), (3, .int h)] := hl
  refine lv_aload_n X.x X.b d_R_more_0 rfl (lv_at hl 0 rfl) ?_
  refine q_getr X hW qj4 rfl _ ds_R 0 (by decide) mw_686 rfl (c1 := 71) rfl d_R_more_1 ?_
  refine lv_iload_n X.x X.b d_R_more_4 rfl (lv_at hl 1 rfl) ?_
  refine lv_iload_n X.x X.b d_R_more_5 rfl (lv_at hl 3 rfl) ?_
  refine lv_aload_n X.x X.b d_R_more_6 rfl (lv_at hl 0 rfl) ?_
  refine q_getr X hW qj4 rfl _ ds_R 0 (by decide) mw_686 rfl (c1 := 71) rfl d_R_more_7 ?_
  refine lv_iload_n X.x X.b d_R_more_10 rfl (lv_at hl 1 rfl) ?_
  refine g_ald X hW ds_71 (q_in (by omega) (by decide)) (p0 := pl) (q_tn (by omega) (by omega)) (v := ν pl) (by rw [hν]) d_R_more_11 ?_
  refine lv_iload_n X.x X.b d_R_more_12 rfl (lv_at hl 2 rfl) ?_
  refine lv_iadd X.x X.b d_R_more_13 ?_
  refine va_mmin X.x X.b (X.ml.trans hl.1.symm) X.ow (X.ts _ mw_913) (X.ts _ (qTB_in (i := 324) (by decide +kernel) rfl)) (X.ts _ (qTB_in (i := 73) (by decide +kernel) rfl)) (X.ts _ (qTB_in (i := 325) (by decide +kernel) rfl)) (by decide) (Nat.le_of_ble_eq_true rfl) (Nat.le_refl 0) (Nat.le_refl 0) d_R_more_14 ?_
  refine lv_topi (fun x14 ex14 => ?_)
  refine g_ast X hW ds_71 (q_in (by omega) (by decide)) (p0 := pl) (q_tn (by omega) (by omega)) (ρ := ν) (by rw [hν]) d_R_more_17 (fun H locs hW => ?_)
  obtain ⟨r17, er17⟩ : ∃ z, z = upd ν pl x14 := ⟨_, rfl⟩
  rw [← er17] at hW
  exact q_vret X hW (by rw [er17, ex14]; unfold moreS; rw [imn_comm]; rfl) d_R_more_18
set_option maxHeartbeats 1000000 in
set_option maxRecDepth 20000 in
theorem c_R_cares (l : Launch) (E : QE) (S : QM) (ν : Nat → Int32) (hν : S 16 = ν) (w t : Nat) (hw : w < 6) (ht : t < 8) (d : Int32) : qCV E l y_R_cares prog_7_method_45_code 4 2 [.ref (eA E 70), .int (nI w), .int (nI t), .int d] S (qr S 16 (crS ν w t d)) := by
  refine qCV_of (by decide) (Nat.le_of_ble_eq_true rfl) (fun p e s m below meth c ls X hW hl => ?_)
  have hl : lv_has ls 4 [(0, .ref (eA E 70)), (1, .int (nI w)), (2, .int (nI t)), (3, .int d)] := hl
  refine lv_aload_n X.x X.b d_R_cares_0 rfl (lv_at hl 0 rfl) ?_
  refine q_getr X hW qj4 rfl _ ds_R 0 (by decide) mw_686 rfl (c1 := 71) rfl d_R_cares_1 ?_
  refine lv_iload_n X.x X.b d_R_cares_4 rfl (lv_at hl 1 rfl) ?_
  refine lv_iconst (v := nI 3) X.x X.b d_R_cares_5 (by decide) ?_
  refine q_csi X (c_R_walkerAt l E S w 3) hW ok_R_walkerAt mw_802 ⟨by decide, by decide⟩ (As := [.int (nI w), .int (nI 3)]) rfl rfl (Nat.le_of_ble_eq_true rfl) (lv := [(0, .ref (eA E 70)), (1, .int (nI w)), (2, .int (nI t)), (3, .int d)]) hl ⟨Nat.le_refl 0, Nat.le_refl 0⟩ d_R_cares_6 (fun H locs hW => ?_)
  refine lv_dup2_11 X.x X.b d_R_cares_9 rfl rfl ?_
  refine g_ald X hW ds_71 (q_in (by omega) (by decide)) (p0 := 44 + 6 * w + 3) (q_tn (by omega) (by omega)) (v := ν (44 + 6 * w + 3)) (by rw [hν]) d_R_cares_10 ?_
  refine lv_iconst (v := nI 1) X.x X.b d_R_cares_11 (by decide) ?_
  refine lv_iload_n X.x X.b d_R_cares_12 rfl (lv_at hl 2 rfl) ?_
  refine lv_ishl X.x X.b d_R_cares_13 ?_
  refine lv_iconst (v := (-1)) X.x X.b d_R_cares_14 (by decide) ?_
  refine lv_ixor X.x X.b d_R_cares_15 ?_
  refine lv_iand X.x X.b d_R_cares_16 ?_
  refine g_ast X hW ds_71 (q_in (by omega) (by decide)) (p0 := 44 + 6 * w + 3) (q_tn (by omega) (by omega)) (ρ := ν) (by rw [hν]) d_R_cares_17 (fun H locs hW => ?_)
  obtain ⟨r17, er17⟩ : ∃ z, z = upd ν (44 + 6 * w + 3) ((ν (44 + 6 * w + 3)) &&& (((nI 1) <<< ((nI t) &&& 31)) ^^^ (-1))) := ⟨_, rfl⟩
  rw [← er17] at hW
  refine lv_aload_n X.x X.b d_R_cares_18 rfl (lv_at hl 0 rfl) ?_
  refine q_getr X hW qj4 rfl _ ds_R 0 (by decide) mw_686 rfl (c1 := 71) rfl d_R_cares_19 ?_
  refine lv_iload_n X.x X.b d_R_cares_22 rfl (lv_at hl 1 rfl) ?_
  refine lv_iconst (v := nI 3) X.x X.b d_R_cares_23 (by decide) ?_
  refine q_csi X (c_R_walkerAt l E (qr S 16 r17) w 3) hW ok_R_walkerAt mw_802 ⟨by decide, by decide⟩ (As := [.int (nI w), .int (nI 3)]) rfl rfl (Nat.le_of_ble_eq_true rfl) (lv := [(0, .ref (eA E 70)), (1, .int (nI w)), (2, .int (nI t)), (3, .int d)]) hl ⟨Nat.le_refl 0, Nat.le_refl 0⟩ d_R_cares_24 (fun H locs hW => ?_)
  refine lv_dup2_11 X.x X.b d_R_cares_27 rfl rfl ?_
  refine g_ald X hW ds_71 (q_in (by omega) (by decide)) (p0 := 44 + 6 * w + 3) (q_tn (by omega) (by omega)) (v := r17 (44 + 6 * w + 3)) (by rw [qr_at]) d_R_cares_28 ?_
  refine lv_iload_n X.x X.b d_R_cares_29 rfl (lv_at hl 3 rfl) ?_
  refine lv_if_eq (tgt := 39) X.x X.b d_R_cares_30 (by decide) (fun c30 => ?_) (fun c30 => ?_)
  · refine lv_iconst (v := nI 0) X.x X.b d_R_cares_39 (by decide) ?_
    refine lv_ior X.x X.b d_R_cares_40 ?_
    refine g_ast X hW ds_71 (q_in (by omega) (by decide)) (p0 := 44 + 6 * w + 3) (q_tn (by omega) (by omega)) (ρ := r17) (by rw [qr_at]) d_R_cares_41 (fun H locs hW => ?_)
    obtain ⟨r41, er41⟩ : ∃ z, z = upd r17 (44 + 6 * w + 3) ((r17 (44 + 6 * w + 3)) ||| (nI 0)) := ⟨_, rfl⟩
    rw [← er41] at hW
    rw [qr_qr] at hW
    exact q_vret X hW (by rw [er41, er17, upd_at, upd_upd]; unfold crS; rw [← two_eq, if_neg (fun z => z c30)]) d_R_cares_42
  · refine lv_iconst (v := nI 1) X.x X.b d_R_cares_33 (by decide) ?_
    refine lv_iload_n X.x X.b d_R_cares_34 rfl (lv_at hl 2 rfl) ?_
    refine lv_ishl X.x X.b d_R_cares_35 ?_
    refine lv_goto (tgt := 40) X.x X.b d_R_cares_36 (by decide) ?_
    refine lv_ior X.x X.b d_R_cares_40 ?_
    refine g_ast X hW ds_71 (q_in (by omega) (by decide)) (p0 := 44 + 6 * w + 3) (q_tn (by omega) (by omega)) (ρ := r17) (by rw [qr_at]) d_R_cares_41 (fun H locs hW => ?_)
    obtain ⟨r41, er41⟩ : ∃ z, z = upd r17 (44 + 6 * w + 3) ((r17 (44 + 6 * w + 3)) ||| ((nI 1) <<< ((nI t) &&& 31))) := ⟨_, rfl⟩
    rw [← er41] at hW
    rw [qr_qr] at hW
    exact q_vret X hW (by rw [er41, er17, upd_at, upd_upd]; unfold crS; rw [← two_eq, if_pos c30]) d_R_cares_42
